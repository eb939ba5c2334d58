import java.io.IOException;

/** What the sentences of the promises 37 to 39 say of boundary cases: lines that tell of ways and of bridges. */
public final class BoundaryLinesTest {
    private BoundaryLinesTest() {
    }

    public static void main(String[] args) throws IOException {
        Boundaries document = new Boundaries(37, 39);
        show(document);
        tell(document);
        written(document);
        document.finish("BoundaryLinesTest");
    }

    private static void shown(TrollBridges x, int from, String want) {
        int length = x.show(from);
        Check.same("characters of \"" + want + "\"", want.length(), length);
        Check.same("show " + from, want, Check.line(x, length));
    }

    private static void told(TrollBridges x, int bridge, String want) {
        int length = x.tell(bridge);
        Check.same("characters of \"" + want + "\"", want.length(), length);
        Check.same("tell " + bridge, want, Check.line(x, length));
    }

    // ---- promise 37

    private static void show(Boundaries document) {
        document.test(37, "the land, and, if lands hang on it", BoundaryLinesTest::showWithoutWays);
        document.test(37, "\"(\", these, by their numbers", BoundaryLinesTest::showByTheirNumbers);
        document.test(37, "each written so", BoundaryLinesTest::showOneBehindAnother);
        document.test(37, "with \" \" between two", BoundaryLinesTest::showWithBlanksBetweenTwo);
        document.test(37, "as in \"0(1 3(2))\"", BoundaryLinesTest::showAsInTheDocument);
        document.test(37, "in place of the line before", BoundaryLinesTest::showInPlaceOfTheLineBefore);
        document.test(37, "Returns how many characters it has.", BoundaryLinesTest::showFrom1To16Characters);
        document.test(37, "if there is no such land", BoundaryLinesTest::showFromNoLand);
    }

    private static void showWithoutWays() {
        TrollBridges x = new TrollBridges();
        for (int land = 0; land < 6; land++) {
            shown(x, land, String.valueOf(land));
        }
        x.bridge(1, 4, 9, 9);
        shown(x, 0, "0");
        shown(x, 5, "5");
        shown(x, 1, "1(4)");
        shown(x, 4, "4(1)");
    }

    private static void showByTheirNumbers() {
        TrollBridges x = new TrollBridges();
        x.bridge(2, 5, 1, 0);
        x.bridge(4, 2, 2, 0);
        x.bridge(2, 3, 3, 0);
        x.bridge(1, 2, 4, 0);
        x.bridge(2, 0, 5, 0);
        shown(x, 2, "2(0 1 3 4 5)");
        x.fog(0, 1);
        x.fog(4, 48);
        shown(x, 2, "2(0 1 3 4 5)");
    }

    private static void showOneBehindAnother() {
        TrollBridges x = new TrollBridges();
        x.bridge(5, 0, 1, 0);
        x.bridge(0, 4, 1, 0);
        x.bridge(4, 1, 1, 0);
        x.bridge(1, 3, 1, 0);
        x.bridge(3, 2, 1, 0);
        shown(x, 5, "5(0(4(1(3(2)))))");
        shown(x, 2, "2(3(1(4(0(5)))))");
        shown(x, 1, "1(3(2) 4(0(5)))");
        x.undo();
        shown(x, 2, "2");
        shown(x, 3, "3(1(4(0(5))))");
    }

    private static void showWithBlanksBetweenTwo() {
        TrollBridges x = new TrollBridges();
        x.bridge(0, 1, 1, 0);
        x.bridge(0, 2, 1, 0);
        x.bridge(1, 3, 1, 0);
        x.bridge(1, 4, 1, 0);
        x.bridge(2, 5, 1, 0);
        shown(x, 0, "0(1(3 4) 2(5))");
        shown(x, 1, "1(0(2(5)) 3 4)");
        shown(x, 3, "3(1(0(2(5)) 4))");
    }

    private static void showAsInTheDocument() {
        TrollBridges x = new TrollBridges();
        x.bridge(0, 1, 1, 0);
        x.bridge(0, 3, 1, 0);
        x.bridge(3, 2, 1, 0);
        shown(x, 0, "0(1 3(2))");
        x.bridge(1, 2, 2, 0);
        shown(x, 0, "0(1 3(2))");
        x.fog(2, 1);
        shown(x, 0, "0(1(2) 3)");
        x.pass(1);
        shown(x, 0, "0(1 3(2))");
        x.bridge(1, 2, 1, 0);
        shown(x, 0, "0(1(2) 3)");
    }

    private static void showInPlaceOfTheLineBefore() {
        TrollBridges x = new TrollBridges();
        x.bridge(0, 1, 1, 0);
        shown(x, 0, "0(1)");
        shown(x, 5, "5");
        x.tell(0);
        shown(x, 4, "4");
    }

    private static void showFrom1To16Characters() {
        TrollBridges full = Scenes.worked();
        shown(full, 0, "0(1(2(3(4(5)))))");
        shown(full, 3, "3(2(1(0)) 4(5))");
        TrollBridges x = new TrollBridges();
        int[] lengths = {4, 7, 10, 13, 16};
        Check.same("a land alone", 1, x.show(0));
        for (int land = 0; land < 5; land++) {
            x.bridge(land, land + 1, 1, 0);
            Check.same("a line of lands", lengths[land], x.show(0));
        }
    }

    private static void showFromNoLand() {
        TrollBridges x = new TrollBridges();
        x.bridge(0, 1, 1, 0);
        x.show(1);
        for (int land : Check.outside(0, 5)) {
            Check.noSuch("land " + land, () -> x.show(land));
        }
        Check.same("the line stays", "1(0)", Check.line(x, 4));
    }

    // ---- promise 38

    private static void tell(Boundaries document) {
        document.test(38, "its number, \":\" and its lands, as they were told", BoundaryLinesTest::tellLands);
        document.test(38, "\"*\" and its span, \"$\" and its toll", BoundaryLinesTest::tellSpanAndToll);
        document.test(38, "\"t\" and the troll that counts it, if one does", BoundaryLinesTest::tellTroll);
        document.test(38, "\"~\" if it is in fog", BoundaryLinesTest::tellFog);
        document.test(38, "\"?\" if it is disputed", BoundaryLinesTest::tellDispute);
        document.test(38, "as in \"3:04*5$2t1~?\"", BoundaryLinesTest::tellAsInTheDocument);
        document.test(38, "in place of the line before", BoundaryLinesTest::tellInPlaceOfTheLineBefore);
        document.test(38, "Returns how many characters it has.", BoundaryLinesTest::tellFrom8To12Characters);
        document.test(38, "if there is no such bridge", BoundaryLinesTest::tellOfNoBridge);
    }

    private static void tellLands() {
        TrollBridges x = new TrollBridges();
        x.bridge(0, 5, 1, 1);
        x.bridge(5, 0, 1, 1);
        for (int bridge = 2; bridge < 10; bridge++) {
            x.bridge(3, 2, 1, 1);
        }
        told(x, 0, "0:05*1$1");
        told(x, 1, "1:50*1$1");
        told(x, 9, "9:32*1$1");
    }

    private static void tellSpanAndToll() {
        TrollBridges x = new TrollBridges();
        x.bridge(0, 1, 1, 9);
        x.bridge(0, 1, 9, 0);
        told(x, 0, "0:01*1$9");
        told(x, 1, "1:01*9$0");
        x.price(0, 0);
        told(x, 0, "0:01*1$0");
    }

    private static void tellTroll() {
        TrollBridges x = Scenes.bridgesAndTrolls();
        told(x, 9, "9:45*1$1");
        x.post(0, 9);
        told(x, 9, "9:45*1$1t0");
        x.post(0, 0);
        x.post(5, 9);
        told(x, 9, "9:45*1$1t5");
        told(x, 0, "0:01*1$1t0");
        x.leave(5);
        told(x, 9, "9:45*1$1");
    }

    private static void tellFog() {
        TrollBridges x = Scenes.bridgesAndTrolls();
        x.fog(4, 2);
        told(x, 4, "4:45*1$1~");
        told(x, 3, "3:34*1$1");
        x.pass(1);
        told(x, 4, "4:45*1$1~");
        x.pass(1);
        told(x, 4, "4:45*1$1");
    }

    private static void tellDispute() {
        TrollBridges x = Scenes.tollBridge();
        told(x, 0, "0:01*3$5t0");
        x.dispute(0, 0);
        told(x, 0, "0:01*3$5t0?");
        x.settle(0, true);
        told(x, 0, "0:01*3$5t0");
    }

    private static void tellAsInTheDocument() {
        TrollBridges x = new TrollBridges();
        for (int bridge = 0; bridge < 4; bridge++) {
            x.bridge(0, 4, 5, 2);
        }
        x.troll();
        x.troll();
        x.goat(0, 0);
        x.post(1, 3);
        x.fog(3, 1);
        x.dispute(0, 3);
        told(x, 3, "3:04*5$2t1~?");
        x.strike(0, true);
        told(x, 3, "3:04*5$2t1~?");
    }

    private static void tellInPlaceOfTheLineBefore() {
        TrollBridges x = Scenes.tollBridge();
        x.bridge(2, 3, 4, 5);
        told(x, 0, "0:01*3$5t0");
        told(x, 1, "1:23*4$5");
        x.show(0);
        told(x, 1, "1:23*4$5");
    }

    private static void tellFrom8To12Characters() {
        TrollBridges x = Scenes.tollBridge();
        x.bridge(2, 3, 4, 5);
        Check.same("the fewest", 8, x.tell(1));
        Check.same("a troll", 10, x.tell(0));
        x.dispute(0, 0);
        Check.same("disputed", 11, x.tell(0));
        x.fog(0, 1);
        Check.same("the most", 12, x.tell(0));
    }

    private static void tellOfNoBridge() {
        TrollBridges x = new TrollBridges();
        Check.noSuch("there is none at all", () -> x.tell(0));
        Check.noElement("no line", () -> x.written(0));
        x.bridge(0, 1, 2, 3);
        x.bridge(1, 2, 3, 4);
        x.tell(1);
        for (int bridge : Check.outside(0, 1)) {
            Check.noSuch("bridge " + bridge, () -> x.tell(bridge));
        }
        Check.same("the line stays", "1:12*3$4", Check.line(x, 8));
    }

    // ---- promise 39

    private static void written(Boundaries document) {
        document.test(39, "`index`: the index, from 0", BoundaryLinesTest::writtenFirstAndLast);
        document.test(39, "if there is none", BoundaryLinesTest::writtenBesideTheLine);
        document.test(39, "if there is none", BoundaryLinesTest::writtenWithoutALine);
        document.test(39, "if there is none", BoundaryLinesTest::writtenBehindAShorterLine);
    }

    private static void writtenFirstAndLast() {
        TrollBridges x = Scenes.disputed();
        x.tell(2);
        Check.same("the first", '2', x.written(0));
        Check.same("the last", '~', x.written(8));
        x.show(5);
        Check.same("the only one", '5', x.written(0));
        x.bridge(3, 4, 1, 1);
        x.bridge(4, 5, 1, 1);
        Check.same("a longer line", 16, x.show(5));
        Check.same("its first", '5', x.written(0));
        Check.same("its last", ')', x.written(15));
    }

    private static void writtenBesideTheLine() {
        TrollBridges x = Scenes.disputed();
        int last = x.tell(0) - 1;
        for (int index : Check.outside(0, last)) {
            Check.noElement("index " + index, () -> x.written(index));
        }
        Check.same("the last one there", '?', x.written(last));
    }

    private static void writtenWithoutALine() {
        TrollBridges x = Scenes.disputed();
        Check.type(x, "troll");
        for (int index : new int[] {Integer.MIN_VALUE, -1, 0, 1, 15, 16, 59, 60, Integer.MAX_VALUE}) {
            Check.noElement("index " + index, () -> x.written(index));
        }
    }

    private static void writtenBehindAShorterLine() {
        TrollBridges x = Scenes.disputed();
        Check.same("a longer line", 11, x.tell(0));
        Check.same("a shorter line", 9, x.tell(2));
        Check.same("its last", '~', x.written(8));
        Check.noElement("what the longer line had behind it", () -> x.written(9));
        Check.noElement("the longer line's last", () -> x.written(10));
    }
}
