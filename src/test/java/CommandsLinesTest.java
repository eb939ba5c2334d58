/** Promises 33 to 39: the input buffer, commands, error positions, reasons with causes, lines. */
public final class CommandsLinesTest {
    private CommandsLinesTest() {
    }

    public static void main(String[] args) {
        promise33Type();
        promise34ReadEachCommand();
        promise34ReadAllOrNone();
        promise34ReadIsOneChange();
        promise34ReadMany();
        promise35ErrorPosition();
        promise35ErrorPositionIsKept();
        promise36Refusal();
        promise37Show();
        promise38Tell();
        promise39Written();
        Check.finish("CommandsLinesTest");
    }

    private static void promise33Type() {
        TrollBridges x = new TrollBridges();
        for (int count = 1; count <= 60; count++) {
            Check.same("type: how many", count, x.type((char) (count * 1000)));
        }
        Check.badState("type: full", () -> x.type('a'));
        Check.badState("type: full still", () -> x.type(';'));
        Check.same("type: sixty", 60, x.account(13));
        Check.badNumber("type: read empties", () -> x.read());
        Check.same("type: empty", 0, x.account(13));
        Check.same("type: one again", 1, x.type('a'));
    }

    private static void promise34ReadEachCommand() {
        TrollBridges x = new TrollBridges();
        Check.same("read: bridge", 1, Check.read(x, "bridge 4 2 9 7"));
        Check.same("read: bridge's lands", 42, 10 * x.bridgeOf(0, 0) + x.bridgeOf(0, 1));
        Check.same("read: bridge's span and toll", 97, 10 * x.bridgeOf(0, 2) + x.bridgeOf(0, 3));
        Check.same("read: troll", 1, Check.read(x, "troll"));
        Check.same("read: a troll", 1, x.account(1));
        Check.same("read: goats", 4, Check.read(x, "goat 4 99;goat 2 0;goat 4 07;goat 3 5"));
        Check.same("read: coins 99", 99, x.goatOf(0, 1));
        Check.same("read: coins 0", 0, x.goatOf(1, 1));
        Check.same("read: coins 07", 7, x.goatOf(2, 1));
        Check.same("read: coins 5", 5, x.goatOf(3, 1));
        Check.same("read: land", 3, x.goatOf(3, 0));
        Check.same("read: post", 1, Check.read(x, "post 0 0"));
        Check.same("read: posted", 0, x.trollOf(0, 0));
        Check.same("read: cross", 1, Check.read(x, "cross 0 0"));
        Check.same("read: crossed", 92, x.goatOf(0, 1));
        Check.same("read: dispute", 1, Check.read(x, "dispute 3 0"));
        Check.same("read: disputed", 3, x.bridgeOf(0, 6));
        Check.same("read: settle for the troll", 2, Check.read(x, "cross 0 0;settle 0+"));
        Check.same("read: settled for it", 14, x.trollOf(0, 1));
        Check.same("read: settle for the goat", 3, Check.read(x, "dispute 0 0;cross 0 0;settle 0-"));
        Check.same("read: settled for the goat", 85, x.goatOf(0, 1));
        Check.same("read: riddle", 1, Check.read(x, "riddle 0 8 12"));
        Check.same("read: riddle's difficulty", 8, x.trollOf(0, 2));
        Check.same("read: riddle's hours", 12, x.trollOf(0, 3));
        Check.same("read: fog", 1, Check.read(x, "fog 0 3"));
        Check.same("read: in fog", 1, x.bridgeOf(0, 5));
        Check.same("read: strike", 2, Check.read(x, "strike 2;strike 3"));
        Check.same("read: two strike", 2, x.account(4));
        Check.same("read: work", 1, Check.read(x, "work 3"));
        Check.same("read: works", 0, x.goatOf(3, 2));
        Check.same("read: pass", 1, Check.read(x, "pass 10"));
        Check.same("read: passed", 10, x.account(3));
        Check.same("read: leave", 1, Check.read(x, "leave 0"));
        Check.same("read: left", -1, x.trollOf(0, 0));
    }

    private static void promise34ReadAllOrNone() {
        TrollBridges x = new TrollBridges();
        Check.read(x, "bridge 0 1 1 1;troll;goat 0 9");
        String before = Check.dump(x);
        readRefused(x, "troll;post 0 0;cross 0 0;pass 1;cross 0 0;post 1 0", 5, 4, 0);
        Check.same("read: none of them done", before, Check.dump(x));
        readRefused(x, "troll;bridge 1 1 1 1", 1, 2, 1);
        readRefused(x, "leave 0;troll", 0, 9, 0);
        readRefused(x, "goat 0 1;pass 0", 1, 0, 0);
        readRefused(x, "pass 49", 0, 0, 0);
        readRefused(x, "bridge 0 6 1 1", 0, 0, 0);
        readRefused(x, "bridge 0 1 0 1", 0, 0, 0);
        readRefused(x, "riddle 1 1 1", 0, 0, 0);
        readRefused(x, "riddle 0 0 1", 0, 0, 0);
        readRefused(x, "fog 9 9", 0, 0, 0);
        readRefused(x, "fog 0 49", 0, 0, 0);
        readRefused(x, "fog 0 0", 0, 3, 0);
        readRefused(x, "settle 0+", 0, 11, 0);
        readRefused(x, "strike 0;strike 0", 1, 3, 1);
        readRefused(x, "work 0", 0, 3, 0);
        readRefused(x, "goat 5 0;cross 1 0", 1, 7, 5);
        readRefused(x, "post 0 0;goat 0 0;cross 1 0", 2, 8, 1);
        Check.same("read: none of them done at last", before, Check.dump(x));
        Check.same("read: only one change", 1, x.account(14));
    }

    private static void readRefused(TrollBridges x, String text, int command, int cause, int detail) {
        Check.type(x, text);
        Check.throwing("read " + text, UnsupportedOperationException.class, () -> x.read());
        Check.same(text + ": buffer empty", 0, x.account(13));
        Check.same(text + ": reason", 12, x.refusal(false, false));
        Check.same(text + ": command", command, x.refusal(false, true));
        if (cause == 0) {
            Check.noElement(text + ": no cause", () -> x.refusal(true, false));
            Check.noElement(text + ": no cause's detail", () -> x.refusal(true, true));
        } else {
            Check.same(text + ": cause", cause, x.refusal(true, false));
            Check.same(text + ": cause's detail", detail, x.refusal(true, true));
        }
    }

    private static void promise34ReadIsOneChange() {
        TrollBridges x = new TrollBridges();
        x.troll();
        String before = Check.dump(x);
        Check.read(x, "bridge 0 1 1 1;post 0 0;goat 0 9;cross 0 0;pass 3");
        Check.same("read: one change", 2, x.account(14));
        Check.same("read: undone at once", 1, x.undo());
        Check.same("read: as before", before, Check.dump(x));
    }

    private static void promise34ReadMany() {
        TrollBridges x = new TrollBridges();
        String text = "pass 1;pass 2;pass 3;pass 4;pass 5;pass 6;pass 7;pass 8;troll";
        Check.type(x, text.substring(0, 60));
        Check.badState("read: one too many", () -> x.type(text.charAt(60)));
        Check.badNumber("read: cut off", () -> x.read());
        Check.same("read: cut off at the end", 60, x.errorPosition());
        TrollBridges y = new TrollBridges();
        String trolls = "troll;troll;troll;troll;troll;troll;troll;troll;troll;troll";
        readRefused(y, trolls, 6, 1, 6);
        Check.type(y, trolls);
        Check.type(y, ";");
        Check.badNumber("read: an eleventh is missing", () -> y.read());
        Check.same("read: an eleventh is missing at the end", 60, y.errorPosition());
        Check.same("read: eight", 8, Check.read(y, "pass 48;pass 1;pass 2;pass 3;pass 4;pass 5;pass 6;pass 7"));
        Check.same("read: their hours", 76, y.account(3));
    }

    private static void promise35ErrorPosition() {
        TrollBridges none = new TrollBridges();
        Check.noElement("errorPosition: none", () -> none.errorPosition());
        none.troll();
        Check.throwing("errorPosition: refused, not malformed", UnsupportedOperationException.class,
                () -> Check.read(none, "troll;leave 0"));
        Check.noElement("errorPosition: none yet", () -> none.errorPosition());
        malformed("", 0);
        malformed(";", 0);
        malformed(" troll", 0);
        malformed("Troll", 0);
        malformed("x", 0);
        malformed("5", 0);
        malformed("\0", 0);
        malformed("\u0174roll", 0);
        malformed("t", 1);
        malformed("tr", 2);
        malformed("trollx", 5);
        malformed("troll ", 5);
        malformed("troll;", 6);
        malformed("troll;;", 6);
        malformed("troll;trill", 8);
        malformed("troll\0", 5);
        malformed("p", 1);
        malformed("po", 2);
        malformed("pa", 2);
        malformed("px", 1);
        malformed("past 1", 3);
        malformed("poss 1", 3);
        malformed("posts", 4);
        malformed("s", 1);
        malformed("st", 2);
        malformed("se", 2);
        malformed("sa", 1);
        malformed("settlx", 5);
        malformed("settle 0", 8);
        malformed("settle 0 ", 8);
        malformed("settle 0*", 8);
        malformed("settle 0+1", 9);
        malformed("settle 00+", 8);
        malformed("settle +", 7);
        malformed("strike 0+", 8);
        malformed("strike  0", 7);
        malformed("bridge 0 1 2", 12);
        malformed("bridge 0 1 2 ", 13);
        malformed("bridge 0 1 22 3", 12);
        malformed("bridge 0 1 2 34", 14);
        malformed("bridge 0,1 2 3", 8);
        malformed("goat 0", 6);
        malformed("goat 0 ", 7);
        malformed("goat 0 -1", 7);
        malformed("goat 0 123", 9);
        malformed("goat 0 1 ", 8);
        malformed("goat 0 12;", 10);
        malformed("goat 10 1", 6);
        malformed("post 0 0 ", 8);
        malformed("post 0 00", 8);
        malformed("cross a 0", 6);
        malformed("dispute 0", 9);
        malformed("disputed", 7);
        malformed("leave 0;b", 9);
        malformed("leave 01", 7);
        malformed("work /", 5);
        malformed("work :", 5);
        malformed("work", 4);
        malformed("riddle 0 1", 10);
        malformed("riddle 0 12 3", 10);
        malformed("riddle 0 1 123", 13);
        malformed("fog 0 9:", 7);
        malformed("fog 0 9/", 7);
        malformed("pass 1:", 6);
        malformed("pass 12 ", 7);
        malformed("pass 1;pass 2;q", 14);
    }

    private static void malformed(String text, int want) {
        TrollBridges x = new TrollBridges();
        Check.badNumber("read \"" + text + "\"", () -> Check.read(x, text));
        Check.same("error position of \"" + text + "\"", want, x.errorPosition());
        Check.same("buffer after \"" + text + "\"", 0, x.account(13));
        Check.same("nothing done by \"" + text + "\"", 0, x.account(14) + x.account(1) + x.account(3));
        Check.noElement("nothing refused by \"" + text + "\"", () -> x.refusal(false, false));
    }

    private static void promise35ErrorPositionIsKept() {
        TrollBridges x = new TrollBridges();
        x.save();
        Check.badNumber("errorPosition: malformed", () -> Check.read(x, "troll;tx"));
        Check.read(x, "troll");
        Check.same("errorPosition: kept by a good text", 7, x.errorPosition());
        x.undo();
        x.restore();
        Check.same("errorPosition: neither undone nor restored", 7, x.errorPosition());
        Check.badNumber("errorPosition: malformed again", () -> x.read());
        Check.same("errorPosition: the latest", 0, x.errorPosition());
    }

    private static void promise36Refusal() {
        TrollBridges x = new TrollBridges();
        Check.noElement("refusal: none, reason", () -> x.refusal(false, false));
        Check.noElement("refusal: none, detail", () -> x.refusal(false, true));
        Check.noElement("refusal: none, cause", () -> x.refusal(true, false));
        Check.noElement("refusal: none, cause's detail", () -> x.refusal(true, true));
        x.save();
        x.troll();
        Check.noSuch("refusal: another exception", () -> x.leave(1));
        Check.noElement("refusal: that is none", () -> x.refusal(false, false));
        Check.refused(x, "refusal: first", 9, 0, () -> x.leave(0));
        x.troll();
        Check.same("refusal: kept by a success", 9, x.refusal(false, false));
        readRefused(x, "pass 1;leave 1", 1, 9, 1);
        x.undo();
        x.restore();
        Check.same("refusal: neither undone nor restored", 12, x.refusal(false, false));
        Check.same("refusal: nor its cause", 9, x.refusal(true, false));
        Check.badNumber("refusal: malformed", () -> x.read());
        Check.same("refusal: kept then", 1, x.refusal(true, true));
        Check.refused(x, "refusal: the latest has no cause", 2, 5, () -> x.bridge(5, 5, 1, 1));
        readRefused(x, "leave 7", 0, 0, 0);
        readRefused(x, "troll;leave 0", 1, 9, 0);
    }

    private static void promise37Show() {
        TrollBridges x = new TrollBridges();
        Check.noSuch("show: land -1", () -> x.show(-1));
        Check.noSuch("show: land 6", () -> x.show(6));
        shown(x, 4, "4");
        x.bridge(0, 1, 1, 0);
        x.bridge(3, 0, 1, 0);
        x.bridge(2, 3, 1, 0);
        shown(x, 0, "0(1 3(2))");
        shown(x, 1, "1(0(3(2)))");
        shown(x, 2, "2(3(0(1)))");
        shown(x, 5, "5");
        x.bridge(5, 4, 1, 0);
        shown(x, 5, "5(4)");
        x.bridge(5, 2, 1, 0);
        x.bridge(1, 4, 9, 0);
        shown(x, 1, "1(0(3(2(5(4)))))");
        shown(x, 3, "3(0(1) 2(5(4)))");
        x.fog(1, 1);
        x.fog(2, 1);
        shown(x, 3, "3(0(1) 2(5(4)))");
        x.bridge(3, 4, 4, 0);
        shown(x, 3, "3(0(1) 2(5) 4)");
        TrollBridges star = new TrollBridges();
        for (int land = 5; land > 0; land--) {
            star.bridge(0, land, land, 0);
        }
        shown(star, 0, "0(1 2 3 4 5)");
        shown(star, 3, "3(0(1 2 4 5))");
        Check.noSuch("show: land 6 again", () -> star.show(6));
        Check.same("show: the line stays", "3(0(1 2 4 5))", Check.line(star, 13));
    }

    private static void shown(TrollBridges x, int from, String want) {
        int length = x.show(from);
        Check.same("show " + from + ": length", want.length(), length);
        Check.same("show " + from, want, Check.line(x, length));
    }

    private static void promise38Tell() {
        TrollBridges x = new TrollBridges();
        Check.noSuch("tell: no bridges", () -> x.tell(0));
        x.bridge(1, 5, 9, 0);
        x.bridge(0, 1, 1, 9);
        x.bridge(0, 1, 1, 9);
        x.bridge(0, 4, 5, 2);
        x.troll();
        x.troll();
        x.goat(0, 0);
        told(x, 0, "0:15*9$0");
        x.post(1, 3);
        told(x, 3, "3:04*5$2t1");
        x.fog(3, 1);
        told(x, 3, "3:04*5$2t1~");
        x.dispute(0, 3);
        told(x, 3, "3:04*5$2t1~?");
        x.pass(1);
        told(x, 3, "3:04*5$2t1?");
        x.settle(3, true);
        x.leave(1);
        x.fog(3, 1);
        told(x, 3, "3:04*5$2~");
        x.price(3, 8);
        x.post(0, 3);
        told(x, 3, "3:04*5$8t0~");
        Check.noSuch("tell: bridge -1", () -> x.tell(-1));
        Check.noSuch("tell: bridge 4", () -> x.tell(4));
        Check.same("tell: the line stays", "3:04*5$8t0~", Check.line(x, 11));
    }

    private static void told(TrollBridges x, int bridge, String want) {
        int length = x.tell(bridge);
        Check.same("tell " + bridge + ": length", want.length(), length);
        Check.same("tell " + bridge, want, Check.line(x, length));
    }

    private static void promise39Written() {
        TrollBridges x = new TrollBridges();
        Check.noElement("written: no line", () -> x.written(0));
        x.save();
        x.bridge(1, 2, 3, 4);
        x.tell(0);
        Check.same("written: first", '0', x.written(0));
        Check.same("written: last", '4', x.written(7));
        Check.noElement("written: behind the last", () -> x.written(8));
        Check.noElement("written: ahead of the first", () -> x.written(-1));
        Check.noElement("written: far behind", () -> x.written(Integer.MAX_VALUE));
        Check.noElement("written: far ahead", () -> x.written(Integer.MIN_VALUE));
        x.undo();
        x.restore();
        Check.same("written: neither undone nor restored", "0:12*3$4", Check.line(x, 8));
        x.show(5);
        Check.same("written: in place of the line before", "5", Check.line(x, 1));
    }
}
