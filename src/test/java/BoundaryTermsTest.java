import java.io.IOException;
import java.util.List;
import java.util.function.Consumer;

/** What the sentences of the section "Terms" say of boundary cases, as the calls of the promises tell of it. */
public final class BoundaryTermsTest {
    private BoundaryTermsTest() {
    }

    public static void main(String[] args) throws IOException {
        Boundaries document = new Boundaries(Boundaries.TERMS, Boundaries.TERMS);
        numbers(document);
        bridgesTrollsGoats(document);
        hoursAndCrossings(document);
        disputesAndWays(document);
        commands(document);
        reasons(document);
        changes(document);
        details(document);
        exceptions(document);
        document.finish("BoundaryTermsTest");
    }

    private static void test(Boundaries document, String quote, Runnable body) {
        document.test(Boundaries.TERMS, quote, body);
    }

    // ---- numbers

    private static void numbers(Boundaries document) {
        test(document, "All numbers are integers but two", BoundaryTermsTest::twoNumbersAreNoIntegers);
    }

    private static void twoNumbersAreNoIntegers() {
        TrollBridges x = Scenes.tollBridge();
        x.bridge(0, 1, 1, 0);
        Check.same("the mean", 2.5, x.meanToll());
        Check.same("the share", 0.5f, x.countedShare());
    }

    // ---- lands and bridges, trolls, goats

    private static void bridgesTrollsGoats(Boundaries document) {
        test(document, "A troll counts one bridge.", BoundaryTermsTest::trollCountsOneBridge);
        test(document, "The lands are numbered from 0 to 5.", BoundaryTermsTest::landsFrom0To5);
        test(document, "At most 10 bridges come, numbered from 0", BoundaryTermsTest::tenBridges);
        test(document, "each between two unlike lands", BoundaryTermsTest::unlikeLands);
        test(document, "with a span from 1 to 9, and a toll from 0 to 9", BoundaryTermsTest::spansAndTolls);
        test(document, "There can be several between the same two.", BoundaryTermsTest::severalBetweenTheSameTwo);
        test(document, "At most 6 trolls come, numbered from 0", BoundaryTermsTest::sixTrolls);
        test(document, "each with no coins at first", BoundaryTermsTest::trollsWithoutCoins);
        test(document, "A troll counts one bridge or none, as at first", BoundaryTermsTest::trollsWithoutBridges);
        test(document, "a bridge is counted by one troll at most", BoundaryTermsTest::oneTrollAtABridge);
        test(document, "with a difficulty from 1 to 9", BoundaryTermsTest::difficulties);
        test(document, "it holds until the hour at which it expires", BoundaryTermsTest::riddleHoldsUntilItExpires);
        test(document, "At most 5 goats come, numbered from 0", BoundaryTermsTest::fiveGoats);
        test(document, "with 0 to 99 coins", BoundaryTermsTest::coinsFrom0To99);
        test(document, "A goat is on strike or not, as at first.", BoundaryTermsTest::goatsWorkAtFirst);
        test(document, "if more goats are on strike than are not", BoundaryTermsTest::generalStrikeOfTheMore);
    }

    private static void trollCountsOneBridge() {
        TrollBridges x = Scenes.bridgesAndTrolls();
        for (int bridge = 0; bridge < 10; bridge++) {
            x.post(0, bridge);
            Check.same("its bridge", bridge, x.trollOf(0, 0));
            Check.same("counted", 11, 10 * x.counted() + x.countedAgain());
        }
    }

    private static void landsFrom0To5() {
        TrollBridges x = new TrollBridges();
        x.bridge(0, 5, 1, 1);
        x.goat(0, 0);
        x.goat(5, 0);
        Check.same("a way from the first to the last", 1, x.fastest(0, 5));
        Check.noSuch("bridge from land 6", () -> x.bridge(6, 0, 1, 1));
        Check.noSuch("bridge to land -1", () -> x.bridge(0, -1, 1, 1));
        Check.noSuch("goat to land 6", () -> x.goat(6, 0));
        Check.noSuch("goat to land -1", () -> x.goat(-1, 0));
        Check.noSuch("way to land 6", () -> x.cheapest(0, 6));
        Check.noSuch("way from land -1", () -> x.hangs(-1, 0));
        Check.noSuch("show from land 6", () -> x.show(6));
    }

    private static void tenBridges() {
        TrollBridges x = new TrollBridges();
        for (int bridge = 0; bridge < 10; bridge++) {
            Check.same("number", bridge, x.bridge(0, 1, 1, 1));
        }
        Check.refused(x, "one more", 1, 10, () -> x.bridge(0, 1, 1, 1));
        Check.same("the last one", 1, x.bridgeOf(9, 1));
    }

    private static void unlikeLands() {
        TrollBridges x = new TrollBridges();
        Check.same("neighbours", 0, x.bridge(0, 1, 1, 1));
        Check.same("the other way round", 1, x.bridge(1, 0, 1, 1));
        Check.refused(x, "one and the same", 2, 1, () -> x.bridge(1, 1, 1, 1));
    }

    private static void spansAndTolls() {
        TrollBridges x = new TrollBridges();
        Check.same("the least", 0, x.bridge(0, 1, 1, 0));
        Check.same("the most", 1, x.bridge(0, 1, 9, 9));
        Check.badNumber("span 0", () -> x.bridge(0, 1, 0, 0));
        Check.badNumber("span 10", () -> x.bridge(0, 1, 10, 0));
        Check.badNumber("toll -1", () -> x.bridge(0, 1, 1, -1));
        Check.badNumber("toll 10", () -> x.bridge(0, 1, 1, 10));
        Check.badNumber("price -1", () -> x.price(0, -1));
        Check.badNumber("price 10", () -> x.price(0, 10));
    }

    private static void severalBetweenTheSameTwo() {
        TrollBridges x = new TrollBridges();
        for (int bridge = 0; bridge < 10; bridge++) {
            Check.same("between 2 and 3", bridge, x.bridge(2, 3, 9, 9));
        }
        x.troll();
        x.post(0, 4);
        x.fog(5, 1);
        Check.same("each is counted by itself", 1, x.counted());
        Check.same("each is in fog by itself", 81, x.sum(false));
        Check.same("each is crossed by itself", 9, x.takes(4));
    }

    private static void sixTrolls() {
        TrollBridges x = new TrollBridges();
        for (int troll = 0; troll < 6; troll++) {
            Check.same("number", troll, x.troll());
        }
        Check.refused(x, "one more", 1, 6, () -> x.troll());
    }

    private static void trollsWithoutCoins() {
        TrollBridges x = Scenes.tollBridge();
        x.cross(0, 0);
        x.troll();
        Check.same("the later one", 0, x.trollOf(1, 1));
        x.undo();
        x.undo();
        x.troll();
        Check.same("the later one, after undoing", 0, x.trollOf(1, 1));
    }

    private static void trollsWithoutBridges() {
        TrollBridges x = Scenes.bridgesAndTrolls();
        for (int troll = 0; troll < 6; troll++) {
            Check.same("at first", -1, x.trollOf(troll, 0));
        }
        x.post(2, 3);
        Check.same("one of them has a bridge", 3, x.trollOf(2, 0));
        Check.same("another has none", -1, x.trollOf(3, 0));
        x.leave(2);
        Check.same("none again", -1, x.trollOf(2, 0));
    }

    private static void oneTrollAtABridge() {
        TrollBridges x = Scenes.bridgesAndTrolls();
        x.post(0, 0);
        for (int troll = 1; troll < 6; troll++) {
            int another = troll;
            Check.refused(x, "another", 4, 0, () -> x.post(another, 0));
        }
        Check.same("counted", 1, x.counted());
    }

    private static void difficulties() {
        TrollBridges x = Scenes.bridgesAndTrolls();
        Check.badNumber("0", () -> x.riddle(0, 0, 1));
        Check.badNumber("10", () -> x.riddle(0, 10, 1));
        x.riddle(0, 1, 1);
        x.riddle(1, 9, 1);
        Check.same("the least and the most", 19, 10 * x.trollOf(0, 2) + x.trollOf(1, 2));
    }

    private static void riddleHoldsUntilItExpires() {
        TrollBridges x = Scenes.bridgesAndTrolls();
        Check.same("its end", 3, x.riddle(0, 9, 3));
        x.pass(2);
        Check.same("an hour ahead of it", 9, x.trollOf(0, 2));
        x.pass(1);
        Check.same("at it", 0, x.trollOf(0, 2));
    }

    private static void fiveGoats() {
        TrollBridges x = new TrollBridges();
        for (int goat = 0; goat < 5; goat++) {
            Check.same("number", goat, x.goat(goat, 1));
        }
        Check.refused(x, "one more", 1, 5, () -> x.goat(0, 1));
    }

    private static void coinsFrom0To99() {
        TrollBridges x = new TrollBridges();
        x.goat(0, 0);
        x.goat(0, 99);
        Check.badNumber("-1", () -> x.goat(0, -1));
        Check.badNumber("100", () -> x.goat(0, 100));
        Check.same("brought", 99, x.account(8));
    }

    private static void goatsWorkAtFirst() {
        TrollBridges x = new TrollBridges();
        x.goat(0, 0);
        x.strike(0, true);
        x.goat(0, 0);
        Check.same("the later one", 0, x.goatOf(1, 2));
        x.strike(1, true);
        x.undo();
        x.undo();
        x.goat(0, 0);
        Check.same("the later one, after undoing", 0, x.goatOf(1, 2));
    }

    private static void generalStrikeOfTheMore() {
        for (int goats = 0; goats <= 5; goats++) {
            TrollBridges x = new TrollBridges();
            for (int goat = 0; goat < goats; goat++) {
                x.goat(0, 0);
            }
            for (int strikers = 0; strikers <= goats; strikers++) {
                if (strikers > 0) {
                    x.strike(goats - strikers, true);
                }
                Check.yes(strikers + " of " + goats, x.isGeneral() == (strikers > goats - strikers));
            }
        }
    }

    // ---- hours, crossing

    private static void hoursAndCrossings(Boundaries document) {
        test(document, "The hour is 0 at first.", BoundaryTermsTest::hour0AtFirst);
        test(document, "as long as the hour is less than the one at which it expires, or lifts",
                BoundaryTermsTest::holdAsLongAsTheHourIsLess);
        test(document, "is its toll, if a troll counts it and it is no general strike, and otherwise 0",
                BoundaryTermsTest::dueOrOtherwise0);
        test(document, "as many hours as its span, twice as many in fog", BoundaryTermsTest::spanTwiceInFog);
        test(document, "besides as many as the difficulty of the riddle of the troll that counts it, if one holds",
                BoundaryTermsTest::difficultyBesides);
        test(document, "these are hours that the goat walks, while the hour stays",
                BoundaryTermsTest::hourStaysWhenAGoatWalks);
        test(document, "The toll goes to the troll, or, while the bridge is disputed, into its chest.",
                BoundaryTermsTest::tollToTheTrollOrIntoTheChest);
    }

    private static void hour0AtFirst() {
        TrollBridges x = new TrollBridges();
        Check.same("the hour", 0, x.account(3));
        x.troll();
        Check.same("a riddle's end", 1, x.riddle(0, 1, 1));
    }

    private static void holdAsLongAsTheHourIsLess() {
        TrollBridges x = Scenes.tollBridge();
        x.riddle(0, 9, 2);
        x.fog(0, 2);
        for (int hour = 0; hour < 4; hour++) {
            int holds = hour < 2 ? 1 : 0;
            Check.same("riddles", holds, x.account(6));
            Check.same("fog", holds, x.account(7));
            Check.same("hours of the riddle", Math.max(0, 2 - hour), x.trollOf(0, 3));
            Check.same("hours over the bridge", 3 + 12 * holds, x.takes(0));
            x.pass(1);
        }
    }

    private static void dueOrOtherwise0() {
        TrollBridges x = Scenes.tollBridge();
        x.goat(0, 0);
        Check.same("no goat is on strike", 5, x.due(0));
        x.strike(1, true);
        Check.same("half of them are", 5, x.due(0));
        x.strike(0, true);
        Check.same("both are", 0, x.due(0));
        x.goat(0, 0);
        x.cross(2, 0);
        Check.same("none was paid", 0, x.trollOf(0, 1));
        x.strike(0, false);
        x.leave(0);
        Check.same("no troll counts it", 0, x.due(0));
        x.cross(0, 0);
        Check.same("none was paid there", 20, x.goatOf(0, 1));
    }

    private static void spanTwiceInFog() {
        TrollBridges x = new TrollBridges();
        for (int span = 1; span <= 9; span++) {
            x.bridge(0, 1, span, 0);
            Check.same("its span", span, x.takes(span - 1));
            x.fog(span - 1, 1);
            Check.same("twice", 2 * span, x.takes(span - 1));
        }
        x.pass(1);
        Check.same("lifted", 9, x.takes(8));
    }

    private static void difficultyBesides() {
        TrollBridges x = Scenes.tollBridge();
        x.troll();
        x.riddle(1, 7, 48);
        Check.same("a riddle of a troll elsewhere", 3, x.takes(0));
        x.riddle(0, 9, 1);
        Check.same("its own", 12, x.takes(0));
        x.fog(0, 48);
        Check.same("not twice in fog", 15, x.takes(0));
        x.leave(0);
        Check.same("not without the troll", 6, x.takes(0));
        x.post(0, 0);
        x.pass(1);
        Check.same("not when it has expired", 6, x.takes(0));
    }

    private static void hourStaysWhenAGoatWalks() {
        TrollBridges x = Scenes.tollBridge();
        x.riddle(0, 9, 1);
        x.fog(0, 1);
        Check.same("walks", 15, x.cross(0, 0));
        Check.same("the hour", 0, x.account(3));
        Check.same("the riddle and the fog hold", 11, 10 * x.account(6) + x.account(7));
        Check.same("walks as long again", 15, x.cross(0, 0));
        x.pass(48);
        Check.same("an hour that passes is not walked", 30, x.goatOf(0, 3));
    }

    private static void tollToTheTrollOrIntoTheChest() {
        TrollBridges x = Scenes.tollBridge();
        x.cross(0, 0);
        Check.same("ahead of the dispute", 500, 100 * x.trollOf(0, 1) + x.bridgeOf(0, 7));
        x.dispute(0, 0);
        x.cross(0, 0);
        Check.same("while it is disputed", 505, 100 * x.trollOf(0, 1) + x.bridgeOf(0, 7));
        x.settle(0, false);
        x.cross(0, 0);
        Check.same("after it is settled", 1000, 100 * x.trollOf(0, 1) + x.bridgeOf(0, 7));
    }

    // ---- disputes, ways

    private static void disputesAndWays(Boundaries document) {
        test(document, "A goat can dispute the toll of a bridge that a troll counts",
                BoundaryTermsTest::disputeWhereATrollCounts);
        test(document, "there is at most one dispute about a bridge", BoundaryTermsTest::oneDisputeAboutABridge);
        test(document, "When it is settled for the troll, the troll gets what is in the chest",
                BoundaryTermsTest::settledForTheTroll);
        test(document, "otherwise each goat gets back what it paid into it", BoundaryTermsTest::settledForTheGoats);
        test(document, "A way from a land to another one goes over bridges.", BoundaryTermsTest::waysGoOverBridges);
        test(document, "What it costs are the tolls that are due", BoundaryTermsTest::waysAsTheyAreNow);
        test(document, "hangs on the lowest land from which a bridge leads to it",
                BoundaryTermsTest::hangsOnTheLowest);
    }

    private static void disputeWhereATrollCounts() {
        TrollBridges x = Scenes.full();
        Check.refused(x, "none counts it", 9, 0, () -> x.dispute(0, 0));
        x.post(0, 0);
        x.price(0, 0);
        Check.same("a toll of 0, from afar, without a crossing", 1, x.dispute(4, 0));
    }

    private static void oneDisputeAboutABridge() {
        TrollBridges x = Scenes.full();
        x.post(0, 0);
        x.post(1, 1);
        x.dispute(0, 0);
        for (int goat = 0; goat < 5; goat++) {
            int another = goat;
            Check.refused(x, "a second one", 10, 0, () -> x.dispute(another, 0));
        }
        Check.same("a goat can dispute two", 2, x.dispute(0, 1));
    }

    private static void settledForTheTroll() {
        TrollBridges x = Scenes.tollBridge();
        x.goat(0, 20);
        x.cross(0, 0);
        x.dispute(1, 0);
        x.cross(0, 0);
        x.cross(1, 0);
        x.cross(1, 0);
        Check.same("in the chest", 15, x.settle(0, true));
        Check.same("the troll, with what it had", 20, x.trollOf(0, 1));
        Check.same("the goats", 20, x.goatOf(0, 1) + x.goatOf(1, 1));
        Check.same("the chest", 0, x.bridgeOf(0, 7) + x.account(11));
    }

    private static void settledForTheGoats() {
        TrollBridges x = Scenes.tollBridge();
        x.goat(1, 20);
        x.goat(0, 20);
        x.cross(0, 0);
        x.dispute(2, 0);
        x.cross(0, 0);
        x.cross(1, 0);
        x.cross(1, 0);
        Check.same("in the chest", 15, x.settle(0, false));
        Check.same("the troll, with what it had", 5, x.trollOf(0, 1));
        Check.same("a goat that paid once, and before", 15, x.goatOf(0, 1));
        Check.same("a goat that paid twice", 20, x.goatOf(1, 1));
        Check.same("the goat that disputed, which paid nothing", 20, x.goatOf(2, 1));
        Check.same("the chest", 0, x.bridgeOf(0, 7) + x.goatOf(0, 5) + x.goatOf(1, 5));
    }

    private static void waysGoOverBridges() {
        TrollBridges x = new TrollBridges();
        Check.noElement("without bridges", () -> x.cheapest(0, 1));
        x.bridge(1, 0, 2, 3);
        Check.same("there", 2, x.fastest(0, 1));
        Check.same("and back", 2, x.fastest(1, 0));
        Check.noElement("beyond", () -> x.cheapest(0, 2));
    }

    private static void waysAsTheyAreNow() {
        TrollBridges x = Scenes.tollBridge();
        Check.same("costs", 5, x.cheapest(0, 1));
        Check.same("takes", 3, x.fastest(0, 1));
        x.strike(0, true);
        x.fog(0, 1);
        Check.same("costs in a general strike", 0, x.cheapest(0, 1));
        Check.same("takes in fog", 6, x.fastest(0, 1));
        x.strike(0, false);
        x.pass(1);
        Check.same("costs again", 5, x.cheapestAgain(0, 1));
        Check.same("takes again", 3, x.fastestAgain(0, 1));
    }

    private static void hangsOnTheLowest() {
        TrollBridges x = new TrollBridges();
        x.bridge(5, 4, 1, 0);
        x.bridge(4, 0, 2, 0);
        x.bridge(5, 3, 2, 0);
        x.bridge(3, 0, 1, 0);
        x.bridge(5, 1, 1, 0);
        x.bridge(1, 0, 3, 0);
        Check.same("the lowest of two as fast, not of three", 3, x.hangs(5, 0));
        Check.same("the fastest way", 3, x.fastest(5, 0));
        Check.noElement("a land to which none leads", () -> x.hangs(5, 2));
        Check.same("told so, too", 11, x.show(5));
        Check.same("with those that hang", "5(1 3(0) 4)", Check.line(x, 11));
    }

    // ---- commands

    private static void commands(Boundaries document) {
        String form = "A text of commands has the form below: ";
        test(document, form + "a bridge comes, between two lands, with its span and toll",
                () -> checkCommand("bridge 5 3 9 8", x -> x.bridge(5, 3, 9, 8)));
        test(document, "; a troll comes;", () -> checkCommand("troll", x -> x.troll()));
        test(document, "a goat comes to a land, with its coins", () -> {
            checkCommand("goat 5 0", x -> x.goat(5, 0));
            checkCommand("goat 0 99", x -> x.goat(0, 99));
            checkCommand("goat 4 09", x -> x.goat(4, 9));
        });
        test(document, "a troll is posted at a bridge", () -> checkCommand("post 1 2", x -> x.post(1, 2)));
        test(document, "a troll leaves its bridge", () -> checkCommand("leave 1", x -> x.leave(1)));
        test(document, "a troll gets a riddle, with its difficulty and for how many hours", () -> {
            checkCommand("riddle 1 9 48", x -> x.riddle(1, 9, 48));
            checkCommand("riddle 2 1 01", x -> x.riddle(2, 1, 1));
        });
        test(document, "a bridge is in fog for so many hours", () -> {
            checkCommand("fog 1 48", x -> x.fog(1, 48));
            checkCommand("fog 2 00", x -> x.fog(2, 0));
        });
        test(document, "a goat crosses a bridge", () -> checkCommand("cross 0 1", x -> x.cross(0, 1)));
        test(document, "it disputes its toll", () -> checkCommand("dispute 0 1", x -> x.dispute(0, 1)));
        test(document, "a dispute is settled, for the troll with \"+\", and otherwise with \"-\"", () -> {
            checkCommand("settle 0+", x -> x.settle(0, true));
            checkCommand("settle 0-", x -> x.settle(0, false));
        });
        test(document, "a goat begins or ends its strike", () -> {
            checkCommand("strike 0", x -> x.strike(0, true));
            checkCommand("work 2", x -> x.strike(2, false));
        });
        test(document, "hours pass.", () -> {
            checkCommand("pass 48", x -> x.pass(48));
            checkCommand("pass 1", x -> x.pass(1));
            checkCommand("pass 07", x -> x.pass(7));
        });
        test(document, "The input buffer has at most 60 characters.", BoundaryTermsTest::sixtyCharacters);
        test(document, "is the lowest index of a character with which", BoundaryTermsTest::lowestIndex);
        test(document, "or the length of the text if there is no such index", BoundaryTermsTest::lengthOfTheText);
        test(document, "words are looked at letter by letter", BoundaryTermsTest::letterByLetter);
    }

    /** A command does what its call does. */
    private static void checkCommand(String command, Consumer<TrollBridges> call) {
        TrollBridges called = Scenes.disputed();
        call.accept(called);
        TrollBridges read = Scenes.disputed();
        Check.same(command, 1, Check.read(read, command));
        Check.same(command + ": state", Check.dump(called), Check.dump(read));
    }

    private static void sixtyCharacters() {
        TrollBridges x = new TrollBridges();
        for (int count = 1; count <= 60; count++) {
            Check.same("characters", count, x.type('0'));
        }
        Check.badState("one more", () -> x.type('0'));
    }

    private static void malformed(String text, int position) {
        TrollBridges x = new TrollBridges();
        Check.badNumber("\"" + text + "\"", () -> Check.read(x, text));
        Check.same("error position of \"" + text + "\"", position, x.errorPosition());
    }

    private static void lowestIndex() {
        malformed("0", 0);
        malformed("goat x x", 5);
        malformed("goat 0 x", 7);
        malformed("goat 0 0x", 8);
        malformed("goat 0 00x", 9);
        malformed("goat 0 000", 9);
        malformed("goat 0 0;x;x", 9);
        malformed("settle 0+-", 9);
        malformed("bridge 0 1 2 33", 14);
    }

    private static void lengthOfTheText() {
        malformed("", 0);
        malformed("goat", 4);
        malformed("goat 0 ", 7);
        malformed("goat 0 0;", 9);
        malformed("goat 0 00;t", 11);
        malformed("settle 0", 8);
    }

    private static void letterByLetter() {
        malformed("post", 4);
        malformed("posh 0 0", 3);
        malformed("pass", 4);
        malformed("pats 0", 2);
        malformed("pest", 1);
        malformed("stroke 0", 3);
        malformed("sittle 0+", 1);
        malformed("selling", 2);
        malformed("settel 0+", 4);
        malformed("trolls", 5);
        malformed("troll goat", 5);
    }

    // ---- reasons

    private static void reasons(Boundaries document) {
        String sentence = "A call is refused for the first of the reasons that its method names";
        test(document, sentence, BoundaryTermsTest::firstReasonsThatAreNamed);
        test(document, "1, there are 10 bridges, 6 trolls, or 5 goats: this number", () -> {
            checkReason(Scenes.full(), 1, 10, x -> x.bridge(0, 1, 1, 1));
            checkReason(Scenes.full(), 1, 6, x -> x.troll());
            checkReason(Scenes.full(), 1, 5, x -> x.goat(0, 1));
        });
        test(document, "2, both lands are one: it", () -> {
            checkReason(Scenes.disputed(), 2, 0, x -> x.bridge(0, 0, 1, 1));
            checkReason(Scenes.disputed(), 2, 5, x -> x.bridge(5, 5, 1, 1));
        });
        test(document, "3, it is so already: the number that is told, or 1 for yes and 0 for no", () -> {
            checkReason(Scenes.disputed(), 3, 1, x -> x.post(1, 1));
            checkReason(Scenes.disputed(), 3, 3, x -> x.fog(2, 3));
            checkReason(Scenes.disputed(), 3, 0, x -> x.fog(1, 0));
            checkReason(Scenes.disputed(), 3, 7, x -> x.price(2, 7));
            checkReason(Scenes.disputed(), 3, 1, x -> x.strike(2, true));
            checkReason(Scenes.disputed(), 3, 0, x -> x.strike(1, false));
        });
        test(document, "4, another troll counts the bridge: it", () -> {
            checkReason(Scenes.disputed(), 4, 0, x -> x.post(1, 0));
            checkReason(Scenes.disputed(), 4, 1, x -> x.post(2, 1));
        });
        test(document, "5, the troll has a riddle that holds: for how many hours yet", () -> {
            checkReason(Scenes.disputed(), 5, 7, x -> x.riddle(0, 1, 1));
            checkReason(afterHours(6), 5, 1, x -> x.riddle(0, 9, 48));
        });
        test(document, "6, the goat is on strike: it", () -> checkReason(Scenes.disputed(), 6, 2, x -> x.cross(2, 0)));
        test(document, "7, the bridge does not lead from the land where the goat is: this land", () -> {
            checkReason(Scenes.disputed(), 7, 1, x -> x.cross(0, 2));
            checkReason(Scenes.disputed(), 7, 0, x -> x.cross(1, 2));
        });
        test(document, "8, the goat has too few coins: how many are lacking",
                () -> checkReason(Scenes.disputed(), 8, 2, x -> x.cross(1, 0)));
        test(document, "9, no troll counts the bridge, or the troll counts none: the bridge, or the troll", () -> {
            checkReason(Scenes.bridgesAndTrolls(), 9, 0, x -> x.leave(0));
            checkReason(Scenes.bridgesAndTrolls(), 9, 5, x -> x.leave(5));
            checkReason(Scenes.full(), 9, 0, x -> x.dispute(4, 0));
            checkReason(Scenes.full(), 9, 9, x -> x.dispute(0, 9));
        });
        test(document, "10, the bridge is disputed: the goat that disputes it", () -> {
            checkReason(Scenes.disputed(), 10, 1, x -> x.leave(0));
            checkReason(Scenes.disputed(), 10, 1, x -> x.post(0, 2));
            checkReason(Scenes.disputed(), 10, 1, x -> x.price(0, 9));
            checkReason(Scenes.disputed(), 10, 1, x -> x.dispute(0, 0));
        });
        test(document, "11, it is not disputed: the bridge", () -> {
            checkReason(Scenes.disputed(), 11, 1, x -> x.settle(1, true));
            checkReason(Scenes.disputed(), 11, 2, x -> x.settle(2, false));
        });
        commandReasons(document);
    }

    private static void commandReasons(Boundaries document) {
        test(document, "12, a command of a text is refused, or its call would throw another exception: its number, "
                + "from 0", () -> {
            checkReason(Scenes.disputed(), 12, 0, x -> Check.read(x, "leave 0;pass 1"));
            checkReason(Scenes.disputed(), 12, 1, x -> Check.read(x, "pass 1;leave 0"));
            checkReason(Scenes.disputed(), 12, 0, x -> Check.read(x, "leave 9;pass 1"));
            checkReason(Scenes.disputed(), 12, 2, x -> Check.read(x, "pass 1;pass 1;pass 0"));
        });
        test(document, "with the reason for which it is refused as the cause, if it is", () -> {
            TrollBridges x = Scenes.disputed();
            checkReason(x, 12, 1, y -> Check.read(y, "pass 1;leave 0"));
            Check.same("the cause", 10, x.refusal(true, false));
            Check.same("its detail", 1, x.refusal(true, true));
            checkReason(x, 12, 1, y -> Check.read(y, "pass 1;leave 9"));
            Check.noElement("no cause", () -> x.refusal(true, false));
            Check.noElement("no detail of it", () -> x.refusal(true, true));
        });
        test(document, "The reason, its detail, and the cause with its detail, of the latest refusal are kept.",
                BoundaryTermsTest::latestRefusalIsKept);
    }

    private static void checkReason(TrollBridges x, int reason, int detail, Consumer<TrollBridges> call) {
        Check.throwing("reason " + reason, UnsupportedOperationException.class, () -> {
            call.accept(x);
            return 0;
        });
        Check.same("the reason", reason, x.refusal(false, false));
        Check.same("its detail", detail, x.refusal(false, true));
    }

    private static TrollBridges afterHours(int hours) {
        TrollBridges x = Scenes.disputed();
        x.pass(hours);
        return x;
    }

    private static void firstReasonsThatAreNamed() {
        checkReason(Scenes.full(), 2, 3, x -> x.bridge(3, 3, 1, 1));
        checkReason(Scenes.disputed(), 3, 0, x -> x.post(0, 0));
        checkReason(Scenes.disputed(), 10, 1, x -> x.post(0, 1));
        checkReason(Scenes.disputed(), 3, 5, x -> x.price(0, 5));
        checkReason(Scenes.disputed(), 6, 2, x -> x.cross(2, 1));
        checkReason(Scenes.disputed(), 7, 0, x -> x.cross(1, 1));
    }

    private static void latestRefusalIsKept() {
        TrollBridges x = Scenes.disputed();
        checkReason(x, 12, 0, y -> Check.read(y, "settle 1+"));
        x.pass(1);
        Check.badNumber("out of range", () -> x.pass(0));
        Check.noSuch("no such bridge", () -> x.due(3));
        Check.same("the reason", 12, x.refusal(false, false));
        Check.same("its detail", 0, x.refusal(false, true));
        Check.same("the cause", 11, x.refusal(true, false));
        Check.same("its detail", 1, x.refusal(true, true));
        Check.refused(x, "another one, without a cause", 9, 2, () -> x.leave(2));
    }

    // ---- changes

    /** Each of the fourteen, such that it is done in the scene where a bridge is disputed. */
    private static final List<Consumer<TrollBridges>> CHANGES = List.of(x -> x.bridge(3, 4, 5, 6), x -> x.troll(),
            x -> x.goat(3, 40), x -> x.post(2, 2), x -> x.leave(1), x -> x.riddle(1, 3, 3), x -> x.fog(1, 3),
            x -> x.price(2, 3), x -> x.cross(0, 1), x -> x.dispute(0, 1), x -> x.settle(0, true),
            x -> x.strike(0, true), x -> x.pass(3), x -> Check.read(x, "troll;troll;pass 1"));

    private static void changes(Boundaries document) {
        test(document, "The changes are the successful calls of bridge", BoundaryTermsTest::eachChangeIsOne);
        test(document, "The changes are the successful calls of bridge", BoundaryTermsTest::failuresAreNone);
        test(document, "The changes are the successful calls of bridge", BoundaryTermsTest::otherCallsAreNone);
        test(document, "What there was before each of the latest 8 changes can be undone.",
                BoundaryTermsTest::latestEightAreUndone);
    }

    private static void eachChangeIsOne() {
        for (int change = 0; change < CHANGES.size(); change++) {
            TrollBridges x = restored();
            String before = Check.dump(x);
            CHANGES.get(change).accept(x);
            Check.same("the change " + change + " is one", 1, x.account(14));
            Check.no("the change " + change + " changes nothing", before.equals(Check.dump(x)));
            Check.same("the change " + change + " is the only one", 0, x.undo());
            TrollBridges undone = restored();
            CHANGES.get(change).accept(undone);
            undone.undo();
            Check.same("the change " + change + " is undone", before, Check.dump(undone));
        }
    }

    /** The scene where a bridge is disputed, without a change that can be undone. */
    private static TrollBridges restored() {
        TrollBridges x = Scenes.disputed();
        x.save();
        x.restore();
        return x;
    }

    private static void failuresAreNone() {
        Check.unchanged("no troll", Scenes::full, List.of(x -> x.troll()));
        Check.unchanged("no change", Scenes::disputed, List.of(x -> x.bridge(0, 0, 1, 1),
                x -> x.goat(0, 100), x -> x.post(0, 0), x -> x.leave(2), x -> x.riddle(0, 1, 1), x -> x.fog(0, 0),
                x -> x.price(0, 1), x -> x.cross(2, 0), x -> x.dispute(0, 0), x -> x.settle(1, true),
                x -> x.strike(2, true), x -> x.pass(0), x -> Check.read(x, "troll;leave 2"),
                x -> Check.read(x, "troll;leave")));
    }

    private static void otherCallsAreNone() {
        TrollBridges x = Scenes.tollBridge();
        Check.same("changes", 4, x.account(14));
        x.due(0);
        x.takes(0);
        x.isWell();
        x.show(0);
        x.tell(0);
        x.type('x');
        x.save();
        Check.same("as many", 4, x.account(14));
        Check.same("the goat", 3, x.undo());
        Check.same("is undone", 0, x.account(2));
    }

    private static void latestEightAreUndone() {
        TrollBridges x = new TrollBridges();
        for (int change = 0; change < CHANGES.size() + 6; change++) {
            x.pass(1 + change);
        }
        for (int left = 7; left >= 0; left--) {
            int hour = x.account(3);
            Check.same("left", left, x.undo());
            Check.same("the hour before", 12 + left + 1, hour - x.account(3));
        }
        Check.badState("a ninth", () -> x.undo());
        Check.same("the first twelve stay", 78, x.account(3));
    }

    // ---- details

    private static void details(Boundaries document) {
        test(document, "A troll that leaves its bridge, or is posted at another one, keeps its riddle.",
                BoundaryTermsTest::trollKeepsItsRiddle);
        test(document, "A goat that disputes pays the toll into the chest as others do.",
                BoundaryTermsTest::goatThatDisputesPays);
        test(document, "A goat on strike does not cross, but it can dispute.",
                BoundaryTermsTest::goatOnStrikeDisputes);
    }

    private static void trollKeepsItsRiddle() {
        TrollBridges x = Scenes.tollBridge();
        x.bridge(0, 1, 1, 1);
        x.riddle(0, 9, 4);
        x.leave(0);
        Check.same("when it left", 94, 10 * x.trollOf(0, 2) + x.trollOf(0, 3));
        Check.same("not the bridge", 3, x.takes(0));
        x.post(0, 1);
        Check.same("at another one", 10, x.takes(1));
        x.post(0, 0);
        Check.same("posted from there", 12, x.takes(0));
        Check.same("not the one before", 1, x.takes(1));
        Check.same("as many hours", 4, x.trollOf(0, 3));
    }

    private static void goatThatDisputesPays() {
        TrollBridges x = Scenes.tollBridge();
        x.goat(0, 4);
        x.dispute(0, 0);
        Check.same("crosses", 3, x.cross(0, 0));
        Check.same("its coins", 15, x.goatOf(0, 1));
        Check.same("in the chest", 5, x.bridgeOf(0, 7));
        x.settle(0, true);
        x.dispute(1, 0);
        Check.refused(x, "a goat that disputes and has too few coins", 8, 1, () -> x.cross(1, 0));
    }

    private static void goatOnStrikeDisputes() {
        TrollBridges x = Scenes.full();
        x.post(0, 0);
        x.strike(0, true);
        Check.refused(x, "does not cross", 6, 0, () -> x.cross(0, 0));
        Check.same("disputes", 1, x.dispute(0, 0));
        Check.same("the goat", 0, x.bridgeOf(0, 6));
        x.strike(1, true);
        x.strike(2, true);
        Check.refused(x, "does not cross, though no toll is due", 6, 0, () -> x.cross(0, 0));
        x.post(1, 1);
        Check.same("disputes a toll that is not due", 2, x.dispute(2, 1));
    }

    // ---- exceptions

    private static void exceptions(Boundaries document) {
        test(document, "leaves the state unchanged, unless its description says otherwise",
                BoundaryTermsTest::failuresChangeNothing);
        test(document, "the one that is listed first determines the exception",
                BoundaryTermsTest::firstListedDetermines);
        test(document, "The input buffer, the error position", BoundaryTermsTest::bufferIsNotUndone);
        test(document, "the error position, the reason with its cause", BoundaryTermsTest::reasonsAreNotUndone);
        test(document, "the line that was written are neither undone nor saved",
                BoundaryTermsTest::lineIsNotUndone);
    }

    private static void failuresChangeNothing() {
        Check.unchanged("asking", Scenes::disputed, List.of(x -> x.bridgeOf(3, 0), x -> x.bridgeOf(0, 9),
                x -> x.trollOf(3, 0), x -> x.trollOf(0, 4), x -> x.goatOf(3, 0), x -> x.goatOf(0, 6), x -> x.due(3),
                x -> x.takes(-1), x -> x.cheapest(0, 6), x -> x.cheapestAgain(6, 0), x -> x.fastest(0, 5),
                x -> x.fastestAgain(0, 4), x -> x.hangs(0, 5), x -> x.richest(3), x -> x.tired(-1)));
        Check.unchanged("telling", Scenes::disputed, List.of(x -> x.errorPosition(), x -> x.refusal(false, false),
                x -> x.show(6), x -> x.tell(3), x -> x.written(0), x -> x.account(15), x -> x.restore()));
        TrollBridges x = Scenes.disputed();
        x.tell(0);
        Check.type(x, "pass");
        Check.noSuch("no such land", () -> x.show(-1));
        Check.noSuch("no such bridge", () -> x.tell(-1));
        Check.refused(x, "refused", 9, 2, () -> x.leave(2));
        Check.same("the buffer stays", 4, x.account(13));
        Check.same("the line stays", "0:01*3$5t0?", Check.line(x, 11));
    }

    private static void firstListedDetermines() {
        TrollBridges x = Scenes.full();
        Check.noSuch("no such land, out of range, one land, ten bridges", () -> x.bridge(6, 6, 0, 10));
        Check.badNumber("out of range, one land, ten bridges", () -> x.bridge(5, 5, 0, 10));
        Check.noSuch("no such land, out of range, five goats", () -> x.goat(-1, 100));
        Check.badNumber("out of range, five goats", () -> x.goat(0, 100));
        Check.noSuch("no such troll, out of range", () -> x.riddle(6, 0, 0));
        Check.noSuch("no such bridge, out of range", () -> x.fog(10, 49));
        Check.noSuch("no such bridge, out of range", () -> x.price(10, 10));
        Check.noSuch("no such bridge, what", () -> x.bridgeOf(10, 9));
        Check.noSuch("no such troll, what", () -> x.trollOf(6, 4));
        Check.noSuch("no such goat, what", () -> x.goatOf(5, 6));
        Check.noElement("nothing was refused", () -> x.refusal(false, false));
    }

    private static void bufferIsNotUndone() {
        TrollBridges x = new TrollBridges();
        Check.type(x, "tro");
        x.pass(1);
        x.save();
        Check.type(x, "l");
        x.undo();
        Check.same("undone", 4, x.account(13));
        Check.type(x, "l");
        x.restore();
        Check.same("restored", 5, x.account(13));
        Check.same("the text is whole", 1, x.read());
        x.undo();
        Check.same("not what was read", 0, x.account(13));
    }

    private static void reasonsAreNotUndone() {
        TrollBridges x = new TrollBridges();
        x.save();
        x.troll();
        Check.badNumber("malformed", () -> Check.read(x, "troll;t"));
        Check.throwing("refused", UnsupportedOperationException.class, () -> Check.read(x, "pass 1;leave 0"));
        x.undo();
        Check.same("undone: the error position", 7, x.errorPosition());
        Check.same("undone: the reason", 12, x.refusal(false, false));
        Check.same("undone: its detail", 1, x.refusal(false, true));
        Check.same("undone: the cause", 9, x.refusal(true, false));
        Check.same("undone: its detail", 0, x.refusal(true, true));
        x.restore();
        Check.same("restored: the error position", 7, x.errorPosition());
        Check.same("restored: the reason", 12, x.refusal(false, false));
        Check.same("restored: its detail", 1, x.refusal(false, true));
        Check.same("restored: the cause", 9, x.refusal(true, false));
        Check.same("restored: its detail", 0, x.refusal(true, true));
    }

    private static void lineIsNotUndone() {
        TrollBridges x = new TrollBridges();
        x.save();
        x.bridge(0, 1, 2, 3);
        x.tell(0);
        x.undo();
        Check.same("undone", "0:01*2$3", Check.line(x, 8));
        x.restore();
        Check.same("restored", "0:01*2$3", Check.line(x, 8));
    }
}
