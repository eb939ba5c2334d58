import java.io.IOException;

/** What the sentences of the promises 33 to 36 say of boundary cases: the buffer, texts, error positions, refusals. */
public final class BoundaryTextsTest {
    private static final String[] COMMANDS = {"bridge 0 1 2 3", "troll", "goat 4 5", "goat 4 56", "post 0 1",
        "cross 2 3", "dispute 4 5", "leave 6", "strike 7", "work 8", "riddle 9 0 1", "riddle 9 0 12", "fog 3 4",
        "fog 3 45", "settle 6+", "settle 7-", "pass 8", "pass 89"};
    private static final String FIRST_LETTERS = "btgpcdlswrf";

    private BoundaryTextsTest() {
    }

    public static void main(String[] args) throws IOException {
        Boundaries document = new Boundaries(33, 36);
        type(document);
        readAllOrNone(document);
        readAndTheBuffer(document);
        readMalformed(document);
        readRefused(document);
        errorPosition(document);
        refusal(document);
        document.finish("BoundaryTextsTest");
    }

    private static void malformed(TrollBridges x, String text, int position) {
        Check.type(x, text);
        Check.badNumber("read \"" + text + "\"", () -> x.read());
        Check.same("error position of \"" + text + "\"", position, x.errorPosition());
    }

    private static void malformed(String text, int position) {
        malformed(new TrollBridges(), text, position);
    }

    private static void wellFormed(String text) {
        TrollBridges x = new TrollBridges();
        Check.type(x, text);
        Class<?> thrown = null;
        try {
            x.read();
        } catch (RuntimeException exception) {
            thrown = exception.getClass();
        }
        Check.no("\"" + text + "\" is malformed", thrown == IllegalArgumentException.class);
        Check.noElement("no error position of \"" + text + "\"", () -> x.errorPosition());
    }

    private static void refused(TrollBridges x, String text, int command) {
        Check.type(x, text);
        Check.throwing("read \"" + text + "\"", UnsupportedOperationException.class, () -> x.read());
        Check.same("reason of \"" + text + "\"", 12, x.refusal(false, false));
        Check.same("command of \"" + text + "\"", command, x.refusal(false, true));
    }

    private static void refusedFor(TrollBridges x, String text, int command, int cause, int detail) {
        refused(x, text, command);
        Check.same("cause of \"" + text + "\"", cause, x.refusal(true, false));
        Check.same("its detail, of \"" + text + "\"", detail, x.refusal(true, true));
    }

    private static void refusedWithoutCause(TrollBridges x, String text, int command) {
        refused(x, text, command);
        Check.noElement("no cause of \"" + text + "\"", () -> x.refusal(true, false));
        Check.noElement("no detail of a cause of \"" + text + "\"", () -> x.refusal(true, true));
    }

    // ---- promise 33

    private static void type(Boundaries document) {
        document.test(33, "Returns the number of characters in the buffer.", BoundaryTextsTest::typeFrom1To60);
        document.test(33, "Returns the number of characters in the buffer.", BoundaryTextsTest::typeAnyCharacter);
        document.test(33, "if there are 60 characters", BoundaryTextsTest::typeASixtyFirst);
        document.test(33, "if there are 60 characters", BoundaryTextsTest::typeAfterAFullBuffer);
    }

    private static void typeFrom1To60() {
        TrollBridges x = new TrollBridges();
        for (int count = 1; count <= 60; count++) {
            Check.same("characters", count, x.type('t'));
            Check.same("account", count, x.account(13));
        }
    }

    private static void typeAnyCharacter() {
        TrollBridges x = new TrollBridges();
        char[] odd = {(char) 0, '\n', ' ', ';', (char) 127, (char) 255, (char) 256, (char) 0xd800, (char) 0xffff};
        for (int index = 0; index < odd.length; index++) {
            Check.same("characters", index + 1, x.type(odd[index]));
        }
    }

    private static void typeASixtyFirst() {
        TrollBridges x = new TrollBridges();
        String sixty = "pass 10;pass 20;pass 30;pass 40;pass 11;pass 1;pass 2;pass 3";
        Check.same("as long as the buffer", 60, sixty.length());
        Check.type(x, sixty);
        Check.badState("a digit", () -> x.type('9'));
        Check.badState("a semicolon", () -> x.type(';'));
        Check.badState("the character 0", () -> x.type((char) 0));
        Check.same("sixty are there", 60, x.account(13));
        Check.same("the sixty are as they were", 8, x.read());
        Check.same("the hour", 117, x.account(3));
    }

    private static void typeAfterAFullBuffer() {
        TrollBridges x = new TrollBridges();
        Check.type(x, "x".repeat(60));
        Check.badNumber("malformed", () -> x.read());
        Check.same("the first again", 1, x.type('t'));
        Check.type(x, "roll");
        Check.same("nothing of it is left", 1, x.read());
        Check.same("a troll", 1, x.account(1));
        Check.same("the first once more", 1, x.type('t'));
    }

    // ---- promise 34

    private static void readAllOrNone(Boundaries document) {
        String sentence = "carries them out, all of them or none.";
        document.test(34, sentence, BoundaryTextsTest::readAll);
        document.test(34, sentence, BoundaryTextsTest::readNoneIfTheFirstIsRefused);
        document.test(34, sentence, BoundaryTextsTest::readNoneIfTheLastIsRefused);
        document.test(34, sentence, BoundaryTextsTest::readNoneIfTheLastIsMalformed);
        document.test(34, sentence, BoundaryTextsTest::readOneAfterAnother);
        document.test(34, "Returns the number of commands.", BoundaryTextsTest::readReturnsFrom1To9);
    }

    private static void readAll() {
        TrollBridges x = new TrollBridges();
        Check.same("the first of them", 9, Check.read(x, "troll;troll;troll;troll;troll;troll;pass 2;pass 3;pass 4"));
        Check.same("trolls", 6, x.account(1));
        Check.same("the hour", 9, x.account(3));
        Check.same("more", 4, Check.read(x, "bridge 0 1 2 3;bridge 5 4 3 2;post 5 0;post 0 1"));
        Check.same("bridges", 2, x.account(0));
        Check.same("counted", 2, x.counted());
        Check.same("one change each", 2, x.account(14));
    }

    private static void readNoneIfTheFirstIsRefused() {
        TrollBridges x = Scenes.disputed();
        refusedFor(x, "settle 1+;troll;bridge 0 1 2 3;pass 9", 0, 11, 1);
        Check.same("as before", Check.dump(Scenes.disputed()), Check.dump(x));
    }

    private static void readNoneIfTheLastIsRefused() {
        String[] texts = {"bridge 0 1 2 3;post 2 3;cross 0 1;work 2;pass 9;leave 0",
            "settle 0-;leave 0;fog 2 0;leave 2", "settle 0+;goat 0 1;goat 0 1;goat 0 1",
            "riddle 1 2 3;goat 0 9;strike 3;dispute 3 1;fog 3 1"};
        for (String text : texts) {
            TrollBridges x = Scenes.disputed();
            Check.type(x, text);
            Check.throwing("read \"" + text + "\"", UnsupportedOperationException.class, () -> x.read());
            Check.same("changes after \"" + text + "\"", 8, x.account(14));
            Check.same("as before \"" + text + "\"", Check.dump(Scenes.disputed()), Check.dump(x));
        }
    }

    private static void readNoneIfTheLastIsMalformed() {
        TrollBridges x = new TrollBridges();
        malformed(x, "bridge 0 1 2 3;goat 0 9;troll;post 0 0;pass 9;pass", 50);
        for (int what = 0; what <= 14; what++) {
            Check.same("account " + what, 0, x.account(what));
        }
    }

    private static void readOneAfterAnother() {
        TrollBridges x = new TrollBridges();
        Check.read(x, "troll;bridge 0 1 2 3;post 0 0;goat 1 3;cross 0 0");
        Check.same("paid to the troll that came and was posted before", 3, x.trollOf(0, 1));
        refusedFor(x, "leave 0;goat 0 0;cross 1 0;post 0 0;cross 1 0", 4, 8, 3);
        Check.same("the troll has not left", 0, x.trollOf(0, 0));
    }

    private static void readReturnsFrom1To9() {
        for (int count = 1; count <= 6; count++) {
            TrollBridges x = new TrollBridges();
            Check.same("trolls", count, Check.read(x, "troll;".repeat(count - 1) + "troll"));
            Check.same("their number", count, x.account(1));
        }
        TrollBridges x = new TrollBridges();
        Check.same("eight", 8, Check.read(x, "pass 1;".repeat(7) + "pass 48"));
        Check.same("the hour", 55, x.account(3));
        Check.same("nine", 9, Check.read(x, "troll;".repeat(6) + "pass 1;pass 2;pass 3"));
        Check.same("the hour then", 61, x.account(3));
    }

    private static void readAndTheBuffer(Boundaries document) {
        String sentence = "The buffer is empty afterwards, also if an exception is thrown.";
        document.test(34, sentence, BoundaryTextsTest::bufferIsEmptyAfterItIsDone);
        document.test(34, sentence, BoundaryTextsTest::bufferIsEmptyAfterItIsMalformed);
        document.test(34, sentence, BoundaryTextsTest::bufferIsEmptyAfterItIsRefused);
    }

    private static void bufferIsEmptyAfterItIsDone() {
        TrollBridges x = new TrollBridges();
        Check.read(x, "troll;pass 1");
        Check.same("characters", 0, x.account(13));
        malformed(x, "", 0);
        Check.same("the next text begins anew", 1, Check.read(x, "troll"));
        Check.same("two trolls", 2, x.account(1));
    }

    private static void bufferIsEmptyAfterItIsMalformed() {
        TrollBridges x = new TrollBridges();
        malformed(x, "troll;", 6);
        Check.same("characters", 0, x.account(13));
        malformed(x, "", 0);
        Check.same("the next text begins anew", 1, Check.read(x, "troll"));
        Check.same("one troll", 1, x.account(1));
    }

    private static void bufferIsEmptyAfterItIsRefused() {
        TrollBridges x = new TrollBridges();
        refusedFor(x, "troll;leave 0", 1, 9, 0);
        Check.same("characters", 0, x.account(13));
        malformed(x, "", 0);
        refusedWithoutCause(x, "pass 0", 0);
        Check.same("characters after another exception", 0, x.account(13));
        Check.same("the next text begins anew", 1, Check.read(x, "troll"));
        Check.same("one troll", 1, x.account(1));
    }

    private static void readMalformed(Boundaries document) {
        String sentence = "`IllegalArgumentException` if the text is malformed; the error position is then kept";
        document.test(34, sentence, BoundaryTextsTest::readAnEmptyText);
        document.test(34, sentence, BoundaryTextsTest::readTextsThatAreCutOff);
        document.test(34, sentence, BoundaryTextsTest::readTextsWithASignThatFitsNowhere);
        document.test(34, sentence, BoundaryTextsTest::readTextsThatGoOnTooLong);
        document.test(34, sentence, BoundaryTextsTest::readEachCommandTwice);
        document.test(34, sentence, BoundaryTextsTest::readEachFirstLetter);
        document.test(34, sentence, BoundaryTextsTest::readDigitsAndTheirNeighbours);
        document.test(34, sentence, BoundaryTextsTest::readMalformedAheadOfRefused);
    }

    private static void readAnEmptyText() {
        malformed("", 0);
        malformed(";", 0);
        malformed("troll;", 6);
        malformed("troll;;troll", 6);
        malformed(";troll", 0);
    }

    /** Behind some of the beginnings a command has ended; all others are malformed at their end. */
    private static void readTextsThatAreCutOff() {
        for (String command : COMMANDS) {
            for (int length = 0; length < command.length(); length++) {
                String beginning = command.substring(0, length);
                boolean isWhole = beginning.matches("(goat 4|riddle 9 0|fog 3|pass) [0-9]");
                if (!isWhole) {
                    malformed(beginning, length);
                    malformed("pass 1;" + beginning, 7 + length);
                }
            }
        }
    }

    private static void readTextsWithASignThatFitsNowhere() {
        for (String command : COMMANDS) {
            for (int index = 0; index <= command.length(); index++) {
                String rest = command.substring(Math.min(index + 1, command.length()));
                malformed(command.substring(0, index) + "#" + rest, index);
                malformed("troll;" + command.substring(0, index) + (char) 0 + rest, 6 + index);
            }
        }
    }

    private static void readTextsThatGoOnTooLong() {
        for (String command : COMMANDS) {
            int length = command.length();
            malformed(command + " ", length);
            malformed(command + "t", length);
            malformed(command + "+", length);
            malformed(command + ";", length + 1);
            boolean isDigitMore = command.matches("(goat 4|riddle 9 0|fog 3|pass) [0-9]");
            if (!isDigitMore) {
                malformed(command + "0", length);
            }
        }
    }

    private static void readEachCommandTwice() {
        for (String command : COMMANDS) {
            wellFormed(command);
            wellFormed(command + ";" + command);
        }
    }

    private static void readEachFirstLetter() {
        for (char sign = 0; sign < 1024; sign++) {
            malformed(String.valueOf(sign), FIRST_LETTERS.indexOf(sign) < 0 ? 0 : 1);
        }
        malformed(String.valueOf((char) 0xffff), 0);
        malformed("TROLL", 0);
        malformed("tROLL", 1);
    }

    private static void readDigitsAndTheirNeighbours() {
        char[] none = {'/', ':', ' ', '-', '+', 'o', (char) 0, (char) 0xb2, (char) 0x130, (char) 0x660, (char) 0xff10};
        for (char sign : none) {
            malformed("leave " + sign, 6);
            malformed("goat " + sign + " 1", 5);
            malformed("goat 1 " + sign, 7);
            malformed("goat 1 1" + sign, 8);
            malformed("settle " + sign + "+", 7);
        }
        for (char digit = '0'; digit <= '9'; digit++) {
            wellFormed("leave " + digit);
            wellFormed("goat " + digit + " " + digit);
            wellFormed("goat 1 1" + digit);
            wellFormed("settle " + digit + "+");
            malformed("goat 1 1" + digit + digit, 9);
        }
    }

    private static void readMalformedAheadOfRefused() {
        TrollBridges x = new TrollBridges();
        malformed(x, "leave 9;leave 9;leave", 21);
        Check.noElement("nothing is refused", () -> x.refusal(false, false));
    }

    private static void readRefused(Boundaries document) {
        String sentence = "if it is refused, for the reason 12";
        document.test(34, sentence, BoundaryTextsTest::readRefusedForEachReason);
        document.test(34, sentence, BoundaryTextsTest::readRefusedWithoutACause);
        document.test(34, sentence, BoundaryTextsTest::readRefusedAtTheFirstAndTheLast);
        document.test(34, sentence, BoundaryTextsTest::readRefusedAtTheEarliest);
    }

    private static void readRefusedForEachReason() {
        refusedFor(Scenes.full(), "bridge 0 1 2 3", 0, 1, 10);
        refusedFor(Scenes.full(), "troll", 0, 1, 6);
        refusedFor(Scenes.full(), "goat 0 0", 0, 1, 5);
        refusedFor(Scenes.disputed(), "bridge 5 5 2 3", 0, 2, 5);
        refusedFor(Scenes.disputed(), "post 1 1", 0, 3, 1);
        refusedFor(Scenes.disputed(), "fog 2 3", 0, 3, 3);
        refusedFor(Scenes.disputed(), "fog 0 0", 0, 3, 0);
        refusedFor(Scenes.disputed(), "strike 2", 0, 3, 1);
        refusedFor(Scenes.disputed(), "work 0", 0, 3, 0);
        refusedFor(Scenes.disputed(), "post 2 1", 0, 4, 1);
        refusedFor(Scenes.disputed(), "riddle 0 1 1", 0, 5, 7);
        refusedFor(Scenes.disputed(), "cross 2 0", 0, 6, 2);
        refusedFor(Scenes.disputed(), "cross 0 2", 0, 7, 1);
        refusedFor(Scenes.disputed(), "cross 1 0", 0, 8, 2);
        refusedFor(Scenes.disputed(), "dispute 0 2", 0, 9, 2);
        refusedFor(Scenes.disputed(), "leave 2", 0, 9, 2);
        refusedFor(Scenes.disputed(), "leave 0", 0, 10, 1);
        refusedFor(Scenes.disputed(), "post 0 2", 0, 10, 1);
        refusedFor(Scenes.disputed(), "dispute 2 0", 0, 10, 1);
        refusedFor(Scenes.disputed(), "settle 2-", 0, 11, 2);
    }

    private static void readRefusedWithoutACause() {
        String[] none = {"bridge 6 0 1 1", "bridge 0 9 1 1", "bridge 0 1 0 1", "goat 6 1", "post 3 0", "post 0 3",
            "cross 3 0", "cross 0 3", "dispute 3 1", "dispute 0 3", "leave 3", "strike 3", "work 9", "riddle 3 1 1",
            "riddle 1 0 1", "riddle 1 1 0", "riddle 1 1 49", "riddle 1 1 99", "fog 3 1", "fog 1 49", "fog 1 99",
            "settle 3+", "settle 9-", "pass 0", "pass 00", "pass 49", "pass 99"};
        for (String command : none) {
            refusedWithoutCause(Scenes.disputed(), command, 0);
            refusedWithoutCause(Scenes.disputed(), "fog 1 1;fog 1 2;" + command, 2);
        }
    }

    private static void readRefusedAtTheFirstAndTheLast() {
        TrollBridges x = new TrollBridges();
        refusedFor(x, "bridge 1 1 1 1;troll", 0, 2, 1);
        refusedFor(x, "troll;bridge 1 1 1 1", 1, 2, 1);
        refusedWithoutCause(x, "troll;troll;troll;troll;troll;troll;pass 1;pass 2;pass 0", 8);
        refusedFor(x, "troll;troll;troll;troll;troll;troll;troll;troll;troll;pass 1", 6, 1, 6);
        refusedFor(x, "troll;troll;troll;troll;troll;troll;troll;troll;troll;troll", 6, 1, 6);
        Check.same("nothing is done", 0, x.account(1) + x.account(3) + x.account(14));
    }

    private static void readRefusedAtTheEarliest() {
        TrollBridges x = new TrollBridges();
        refusedFor(x, "troll;leave 0;bridge 2 2 2 2;leave 7", 1, 9, 0);
        refusedWithoutCause(x, "troll;leave 7;leave 0;bridge 2 2 2 2", 1);
    }

    // ---- promise 35

    private static void errorPosition(Boundaries document) {
        String latest = "Returns the error position of the latest text that was malformed.";
        document.test(35, latest, BoundaryTextsTest::errorPositionOfTheLatest);
        document.test(35, latest, BoundaryTextsTest::errorPositionFrom0To60);
        document.test(35, "if there was none", BoundaryTextsTest::errorPositionOfNone);
    }

    private static void errorPositionOfTheLatest() {
        TrollBridges x = new TrollBridges();
        malformed(x, "troll;trolls", 11);
        malformed(x, "goat", 4);
        malformed(x, "", 0);
        malformed(x, "troll;pass 1;x", 13);
        Check.read(x, "pass 1");
        Check.same("kept when a text is done", 13, x.errorPosition());
        refusedFor(x, "troll;leave 0", 1, 9, 0);
        Check.same("kept when a text is refused", 13, x.errorPosition());
        Check.same("told twice", 13, x.errorPosition());
    }

    private static void errorPositionFrom0To60() {
        malformed("#" + "x".repeat(59), 0);
        String nearly = "pass 10;pass 20;pass 30;pass 40;pass 11;pass 1;pass 2;pass ";
        malformed(nearly + "#", 59);
        malformed(nearly, 59);
        malformed("troll;".repeat(10), 60);
        malformed("pass 11;".repeat(7) + "pass", 60);
    }

    private static void errorPositionOfNone() {
        TrollBridges x = new TrollBridges();
        Check.noElement("nothing was read", () -> x.errorPosition());
        Check.type(x, "#");
        Check.noElement("it is not read yet", () -> x.errorPosition());
        TrollBridges done = new TrollBridges();
        Check.read(done, "troll");
        refusedFor(done, "leave 0", 0, 9, 0);
        Check.noElement("texts that were done or refused", () -> done.errorPosition());
        malformed(done, "", 0);
        malformed(x, "", 0);
    }

    // ---- promise 36

    private static void refusal(Boundaries document) {
        document.test(36, "Returns a number about the latest refusal, or about its cause.",
                BoundaryTextsTest::refusalOfTheLatest);
        document.test(36, "`isCause`: whether the cause is told", BoundaryTextsTest::refusalAndItsCause);
        document.test(36, "true for the detail, false for the reason", BoundaryTextsTest::refusalWithDetail0);
        document.test(36, "if nothing was refused, or there is no cause", BoundaryTextsTest::refusalOfNothing);
        document.test(36, "if nothing was refused, or there is no cause", BoundaryTextsTest::refusalWithoutCause);
        document.test(36, "if nothing was refused, or there is no cause", BoundaryTextsTest::refusalLosesItsCause);
    }

    private static void checkRefusal(TrollBridges x, String what, int reason, int detail) {
        Check.same(what + ": reason", reason, x.refusal(false, false));
        Check.same(what + ": detail", detail, x.refusal(false, true));
    }

    private static void refusalOfTheLatest() {
        TrollBridges x = Scenes.disputed();
        Check.refused(x, "the first", 11, 1, () -> x.settle(1, true));
        Check.refused(x, "the second", 9, 2, () -> x.leave(2));
        Check.noSuch("no such troll", () -> x.leave(3));
        checkRefusal(x, "kept, as nothing was refused", 9, 2);
        Check.badNumber("out of range", () -> x.pass(0));
        checkRefusal(x, "kept, as nothing was refused again", 9, 2);
        x.pass(1);
        checkRefusal(x, "kept, as it was done", 9, 2);
        refusedFor(x, "pass 1;pass 2;settle 2+", 2, 11, 2);
        malformed(x, "#", 0);
        checkRefusal(x, "kept, as a text was malformed", 12, 2);
        Check.noElement("another exception", () -> x.written(0));
        Check.same("its cause, too", 11, x.refusal(true, false));
    }

    private static void refusalAndItsCause() {
        TrollBridges x = Scenes.disputed();
        refusedFor(x, "pass 1;leave 0", 1, 10, 1);
        checkRefusal(x, "not the cause", 12, 1);
        refusedFor(x, "cross 1 0", 0, 8, 2);
        checkRefusal(x, "not the next cause", 12, 0);
    }

    private static void refusalWithDetail0() {
        TrollBridges x = new TrollBridges();
        Check.refused(x, "the least detail", 2, 0, () -> x.bridge(0, 0, 1, 1));
        x.troll();
        refusedFor(x, "leave 0", 0, 9, 0);
        Check.same("the least detail of a cause", 0, x.refusal(true, true));
        Check.refused(x, "of a troll", 9, 0, () -> x.leave(0));
        TrollBridges full = Scenes.full();
        Check.refused(full, "a great detail", 1, 10, () -> full.bridge(0, 1, 1, 1));
        full.riddle(5, 1, 48);
        Check.refused(full, "the greatest detail", 5, 48, () -> full.riddle(5, 1, 1));
    }

    private static void refusalOfNothing() {
        TrollBridges x = new TrollBridges();
        for (int index = 0; index < 4; index++) {
            boolean isCause = index >= 2;
            boolean isDetail = index % 2 == 1;
            Check.noElement("at first", () -> x.refusal(isCause, isDetail));
        }
        Check.noSuch("no such bridge", () -> x.fog(0, 0));
        Check.badNumber("out of range", () -> x.pass(49));
        malformed(x, "leave", 5);
        Check.badState("nothing to undo", () -> x.undo());
        for (int index = 0; index < 4; index++) {
            boolean isCause = index >= 2;
            boolean isDetail = index % 2 == 1;
            Check.noElement("after other exceptions", () -> x.refusal(isCause, isDetail));
        }
    }

    private static void refusalWithoutCause() {
        TrollBridges x = new TrollBridges();
        Check.refused(x, "a call", 2, 3, () -> x.bridge(3, 3, 1, 1));
        refusedWithoutCause(x, "troll;leave 1", 1);
        refusedWithoutCause(x, "pass 0", 0);
    }

    private static void refusalLosesItsCause() {
        TrollBridges x = new TrollBridges();
        x.troll();
        refusedFor(x, "pass 1;leave 0", 1, 9, 0);
        refusedWithoutCause(x, "leave 1", 0);
        refusedFor(x, "pass 1;leave 0", 1, 9, 0);
        Check.refused(x, "a call", 9, 0, () -> x.leave(0));
    }
}
