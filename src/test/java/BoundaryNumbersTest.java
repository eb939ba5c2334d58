import java.io.IOException;

/** What the sentences of the promises 15 to 19 say of boundary cases: numbers of bridges, trolls, goats, and tolls. */
public final class BoundaryNumbersTest {
    private static final String OUT_OF_RANGE = "`IllegalArgumentException`";

    private BoundaryNumbersTest() {
    }

    public static void main(String[] args) throws IOException {
        Boundaries document = new Boundaries(15, 19);
        bridgeOf(document);
        trollOf(document);
        goatOf(document);
        due(document);
        takes(document);
        document.finish("BoundaryNumbersTest");
    }

    // ---- promise 15

    private static void bridgeOf(Boundaries document) {
        document.test(15, "0 and 1 for its lands, as they were told", BoundaryNumbersTest::bridgeOfItsLands);
        document.test(15, "2 for its span", BoundaryNumbersTest::bridgeOfItsSpan);
        document.test(15, "3 for its toll", BoundaryNumbersTest::bridgeOfItsToll);
        document.test(15, "4 for the troll that counts it, -1 for none", BoundaryNumbersTest::bridgeOfItsTroll);
        document.test(15, "5 for 1 if it is in fog, and 0 otherwise", BoundaryNumbersTest::bridgeOfItsFog);
        document.test(15, "6 for the goat that disputes it, -1 for none", BoundaryNumbersTest::bridgeOfItsDisputer);
        document.test(15, "7 for the coins in its chest", BoundaryNumbersTest::bridgeOfItsChest);
        document.test(15, "8 for how often goats crossed it so far", BoundaryNumbersTest::bridgeOfItsCrossings);
        document.test(15, "`what`: 0 and 1", BoundaryNumbersTest::bridgeOfEachOfTen);
        document.test(15, "if there is no such bridge", BoundaryNumbersTest::bridgeOfNone);
        document.test(15, OUT_OF_RANGE + " if what is not from 0 to 8", BoundaryNumbersTest::bridgeOfNoSuchNumber);
    }

    private static void bridgeOfItsLands() {
        TrollBridges x = new TrollBridges();
        x.bridge(0, 5, 1, 1);
        x.bridge(5, 0, 1, 1);
        Check.same("the lower is told first", 5, 10 * x.bridgeOf(0, 0) + x.bridgeOf(0, 1));
        Check.same("the higher is told first", 50, 10 * x.bridgeOf(1, 0) + x.bridgeOf(1, 1));
        x.goat(5, 0);
        x.cross(0, 0);
        Check.same("after a goat went back over it", 5, 10 * x.bridgeOf(0, 0) + x.bridgeOf(0, 1));
    }

    private static void bridgeOfItsSpan() {
        TrollBridges x = new TrollBridges();
        x.bridge(0, 1, 1, 5);
        x.bridge(0, 1, 9, 5);
        x.fog(1, 1);
        Check.same("the least", 1, x.bridgeOf(0, 2));
        Check.same("the most, in fog", 9, x.bridgeOf(1, 2));
    }

    private static void bridgeOfItsToll() {
        TrollBridges x = new TrollBridges();
        x.bridge(0, 1, 5, 0);
        x.bridge(0, 1, 5, 9);
        Check.same("the least", 0, x.bridgeOf(0, 3));
        Check.same("the most, though it is not due", 9, x.bridgeOf(1, 3));
        x.price(0, 9);
        x.price(1, 0);
        Check.same("the most by now", 9, x.bridgeOf(0, 3));
        Check.same("the least by now", 0, x.bridgeOf(1, 3));
    }

    private static void bridgeOfItsTroll() {
        TrollBridges x = Scenes.bridgesAndTrolls();
        Check.same("none at first", -1, x.bridgeOf(0, 4));
        x.post(0, 0);
        x.post(5, 9);
        Check.same("troll 0, which is not none", 0, x.bridgeOf(0, 4));
        Check.same("troll 5", 5, x.bridgeOf(9, 4));
        Check.same("none at another one", -1, x.bridgeOf(1, 4));
        x.post(0, 1);
        Check.same("none, when it is posted elsewhere", -1, x.bridgeOf(0, 4));
        x.leave(5);
        Check.same("none, when it left", -1, x.bridgeOf(9, 4));
    }

    private static void bridgeOfItsFog() {
        TrollBridges x = Scenes.bridgesAndTrolls();
        Check.same("none at first", 0, x.bridgeOf(0, 5));
        x.fog(0, 2);
        Check.same("in fog", 1, x.bridgeOf(0, 5));
        Check.same("not another one", 0, x.bridgeOf(1, 5));
        x.pass(1);
        Check.same("in its last hour", 1, x.bridgeOf(0, 5));
        x.pass(1);
        Check.same("at the hour at which it lifts", 0, x.bridgeOf(0, 5));
    }

    private static void bridgeOfItsDisputer() {
        TrollBridges x = Scenes.full();
        x.post(0, 0);
        x.post(1, 9);
        Check.same("none at first", -1, x.bridgeOf(0, 6));
        x.dispute(0, 0);
        x.dispute(4, 9);
        Check.same("goat 0, which is not none", 0, x.bridgeOf(0, 6));
        Check.same("goat 4", 4, x.bridgeOf(9, 6));
        Check.same("none at another one", -1, x.bridgeOf(1, 6));
        x.settle(0, true);
        x.settle(9, false);
        Check.same("none, when it is settled for the troll", -1, x.bridgeOf(0, 6));
        Check.same("none, when it is settled for the goat", -1, x.bridgeOf(9, 6));
    }

    private static void bridgeOfItsChest() {
        TrollBridges x = Scenes.tollBridge();
        x.goat(1, 99);
        x.cross(0, 0);
        Check.same("nothing without a dispute", 0, x.bridgeOf(0, 7));
        x.dispute(0, 0);
        Check.same("nothing at first", 0, x.bridgeOf(0, 7));
        x.cross(0, 0);
        x.cross(1, 0);
        Check.same("of two goats", 10, x.bridgeOf(0, 7));
        x.settle(0, false);
        Check.same("nothing, when it is settled", 0, x.bridgeOf(0, 7));
        x.dispute(1, 0);
        for (int crossing = 0; crossing < 19; crossing++) {
            x.cross(1, 0);
        }
        Check.same("nearly all that a goat can have", 95, x.bridgeOf(0, 7));
    }

    private static void bridgeOfItsCrossings() {
        TrollBridges x = new TrollBridges();
        x.bridge(0, 1, 9, 9);
        x.bridge(0, 1, 1, 1);
        x.goat(0, 0);
        Check.same("never", 0, x.bridgeOf(0, 8));
        for (int crossing = 1; crossing <= 300; crossing++) {
            x.cross(0, 0);
        }
        Check.same("more often than a byte can count", 300, x.bridgeOf(0, 8));
        Check.same("never the other one", 0, x.bridgeOf(1, 8));
        x.goat(0, 0);
        x.cross(1, 0);
        Check.same("by another goat", 301, x.bridgeOf(0, 8));
    }

    private static void bridgeOfEachOfTen() {
        TrollBridges x = Scenes.worked();
        for (int bridge = 0; bridge < 10; bridge++) {
            int[] want = {bridge % 5, bridge % 5 + 1, 9, 2, bridge < 6 ? bridge : -1, 0, -1, 0, bridge < 5 ? 2 : 0};
            for (int what = 0; what < want.length; what++) {
                Check.same("bridge " + bridge + ", " + what, want[what], x.bridgeOf(bridge, what));
            }
            Check.same("due at bridge " + bridge, bridge < 6 ? 2 : 0, x.due(bridge));
            Check.same("hours over bridge " + bridge, 9, x.takes(bridge));
        }
    }

    private static void bridgeOfNone() {
        TrollBridges x = new TrollBridges();
        x.troll();
        x.goat(0, 1);
        Check.noSuch("there is none at all", () -> x.bridgeOf(0, 0));
        x.bridge(0, 1, 1, 7);
        x.bridge(0, 1, 1, 8);
        for (int bridge : Check.outside(0, 1)) {
            Check.noSuch("bridge " + bridge, () -> x.bridgeOf(bridge, 0));
        }
        Check.noSuch("ahead of what is too high", () -> x.bridgeOf(2, 9));
        Check.noSuch("ahead of what is too low", () -> x.bridgeOf(-1, -1));
        Check.same("the last one there", 8, x.bridgeOf(1, 3));
        x.undo();
        Check.noSuch("one that was undone", () -> x.bridgeOf(1, 3));
    }

    private static void bridgeOfNoSuchNumber() {
        TrollBridges x = Scenes.full();
        for (int what : Check.outside(0, 8)) {
            Check.badNumber("what " + what, () -> x.bridgeOf(9, what));
        }
        Check.same("the last one there", 0, x.bridgeOf(9, 8));
    }

    // ---- promise 16

    private static void trollOf(Boundaries document) {
        document.test(16, "0 for its bridge, -1 for none", BoundaryNumbersTest::trollOfItsBridge);
        document.test(16, "1 for its coins", BoundaryNumbersTest::trollOfItsCoins);
        document.test(16, "2 for the difficulty of its riddle, 0 if none holds",
                BoundaryNumbersTest::trollOfItsDifficulty);
        document.test(16, "3 for how many hours this holds yet, 0 if none does",
                BoundaryNumbersTest::trollOfItsHours);
        document.test(16, "`what`: 0 for its bridge", BoundaryNumbersTest::trollOfEachOfSix);
        document.test(16, "if there is no such troll", BoundaryNumbersTest::trollOfNone);
        document.test(16, OUT_OF_RANGE + " if what is not from 0 to 3", BoundaryNumbersTest::trollOfNoSuchNumber);
    }

    private static void trollOfItsBridge() {
        TrollBridges x = Scenes.bridgesAndTrolls();
        Check.same("none at first", -1, x.trollOf(0, 0));
        x.post(0, 0);
        x.post(5, 9);
        Check.same("bridge 0, which is not none", 0, x.trollOf(0, 0));
        Check.same("bridge 9", 9, x.trollOf(5, 0));
        x.leave(0);
        Check.same("none, when it left", -1, x.trollOf(0, 0));
    }

    private static void trollOfItsCoins() {
        TrollBridges x = new TrollBridges();
        x.bridge(0, 1, 1, 9);
        x.troll();
        x.troll();
        x.post(1, 0);
        Check.same("none at first", 0, x.trollOf(1, 1));
        for (int goat = 0; goat < 5; goat++) {
            x.goat(0, 99);
            for (int crossing = 0; crossing < 11; crossing++) {
                x.cross(goat, 0);
            }
        }
        Check.same("all that goats can bring", 495, x.trollOf(1, 1));
        Check.same("not another's", 0, x.trollOf(0, 1));
        x.leave(1);
        Check.same("when it left", 495, x.trollOf(1, 1));
    }

    private static void trollOfItsDifficulty() {
        TrollBridges x = Scenes.bridgesAndTrolls();
        Check.same("none at first", 0, x.trollOf(0, 2));
        x.riddle(0, 9, 2);
        Check.same("it holds", 9, x.trollOf(0, 2));
        Check.same("none of another", 0, x.trollOf(1, 2));
        x.pass(1);
        Check.same("in its last hour", 9, x.trollOf(0, 2));
        x.pass(1);
        Check.same("at the hour at which it expires", 0, x.trollOf(0, 2));
        x.riddle(0, 1, 1);
        Check.same("the next one", 1, x.trollOf(0, 2));
    }

    private static void trollOfItsHours() {
        TrollBridges x = Scenes.bridgesAndTrolls();
        Check.same("none at first", 0, x.trollOf(0, 3));
        x.pass(10);
        Check.same("none at a later hour", 0, x.trollOf(0, 3));
        x.riddle(0, 9, 48);
        Check.same("all of them", 48, x.trollOf(0, 3));
        x.pass(47);
        Check.same("in its last hour", 1, x.trollOf(0, 3));
        x.pass(1);
        Check.same("at the hour at which it expires", 0, x.trollOf(0, 3));
        x.pass(48);
        Check.same("long after it", 0, x.trollOf(0, 3));
    }

    private static void trollOfEachOfSix() {
        TrollBridges x = Scenes.worked();
        x.riddle(5, 9, 48);
        for (int troll = 0; troll < 6; troll++) {
            int[] want = {troll, troll < 5 ? 4 : 0, troll < 5 ? 0 : 9, troll < 5 ? 0 : 48};
            for (int what = 0; what < want.length; what++) {
                Check.same("troll " + troll + ", " + what, want[what], x.trollOf(troll, what));
            }
        }
    }

    private static void trollOfNone() {
        TrollBridges x = new TrollBridges();
        x.bridge(0, 1, 1, 1);
        x.goat(0, 1);
        Check.noSuch("there is none at all", () -> x.trollOf(0, 0));
        x.troll();
        x.troll();
        for (int troll : Check.outside(0, 1)) {
            Check.noSuch("troll " + troll, () -> x.trollOf(troll, 0));
        }
        Check.noSuch("ahead of what is too high", () -> x.trollOf(2, 4));
        Check.noSuch("ahead of what is too low", () -> x.trollOf(-1, -1));
        Check.same("the last one there", -1, x.trollOf(1, 0));
        x.undo();
        Check.noSuch("one that was undone", () -> x.trollOf(1, 0));
    }

    private static void trollOfNoSuchNumber() {
        TrollBridges x = Scenes.full();
        for (int what : Check.outside(0, 3)) {
            Check.badNumber("what " + what, () -> x.trollOf(5, what));
        }
        Check.same("the last one there", 0, x.trollOf(5, 3));
    }

    // ---- promise 17

    private static void goatOf(Boundaries document) {
        document.test(17, "0 for its land", BoundaryNumbersTest::goatOfItsLand);
        document.test(17, "1 for its coins", BoundaryNumbersTest::goatOfItsCoins);
        document.test(17, "2 for 1 if it is on strike, and 0 otherwise", BoundaryNumbersTest::goatOfItsStrike);
        document.test(17, "3 for the hours that it walked so far", BoundaryNumbersTest::goatOfItsHours);
        document.test(17, "4 for its crossings so far", BoundaryNumbersTest::goatOfItsCrossings);
        document.test(17, "5 for its coins in chests", BoundaryNumbersTest::goatOfItsCoinsInChests);
        document.test(17, "5 for its coins in chests", BoundaryNumbersTest::goatOfItsCoinsInTheLastChest);
        document.test(17, "`what`: 0 for its land", BoundaryNumbersTest::goatOfEachOfFive);
        document.test(17, "if there is no such goat", BoundaryNumbersTest::goatOfNone);
        document.test(17, OUT_OF_RANGE + " if what is not from 0 to 5", BoundaryNumbersTest::goatOfNoSuchNumber);
    }

    private static void goatOfItsLand() {
        TrollBridges x = new TrollBridges();
        x.bridge(0, 5, 1, 0);
        x.goat(0, 0);
        x.goat(5, 0);
        Check.same("the lowest", 0, x.goatOf(0, 0));
        Check.same("the highest", 5, x.goatOf(1, 0));
        x.cross(0, 0);
        x.cross(1, 0);
        Check.same("to the highest", 5, x.goatOf(0, 0));
        Check.same("to the lowest", 0, x.goatOf(1, 0));
    }

    private static void goatOfItsCoins() {
        TrollBridges x = new TrollBridges();
        x.bridge(0, 1, 1, 9);
        x.troll();
        x.post(0, 0);
        x.goat(0, 99);
        x.goat(0, 0);
        Check.same("the most", 99, x.goatOf(0, 1));
        Check.same("the least", 0, x.goatOf(1, 1));
        for (int crossing = 0; crossing < 11; crossing++) {
            x.cross(0, 0);
        }
        Check.same("none is left", 0, x.goatOf(0, 1));
    }

    private static void goatOfItsStrike() {
        TrollBridges x = Scenes.full();
        Check.same("at first", 0, x.goatOf(4, 2));
        x.strike(4, true);
        Check.same("on strike", 1, x.goatOf(4, 2));
        Check.same("not another one", 0, x.goatOf(3, 2));
        x.strike(4, false);
        Check.same("at work again", 0, x.goatOf(4, 2));
    }

    private static void goatOfItsHours() {
        TrollBridges x = new TrollBridges();
        x.bridge(0, 1, 9, 0);
        x.troll();
        x.post(0, 0);
        x.goat(0, 0);
        x.goat(0, 0);
        Check.same("none at first", 0, x.goatOf(0, 3));
        x.pass(48);
        Check.same("none, though hours pass", 0, x.goatOf(0, 3));
        x.fog(0, 48);
        x.riddle(0, 9, 48);
        for (int crossing = 0; crossing < 400; crossing++) {
            x.cross(0, 0);
        }
        Check.same("the most of many crossings", 10800, x.goatOf(0, 3));
        Check.same("none of another", 0, x.goatOf(1, 3));
    }

    private static void goatOfItsCrossings() {
        TrollBridges x = new TrollBridges();
        x.bridge(0, 1, 9, 0);
        x.bridge(0, 1, 9, 0);
        x.goat(0, 0);
        x.goat(0, 0);
        Check.same("none at first", 0, x.goatOf(0, 4));
        for (int crossing = 0; crossing < 300; crossing++) {
            x.cross(0, crossing % 2);
        }
        Check.same("more than a byte can count", 300, x.goatOf(0, 4));
        Check.same("none of another", 0, x.goatOf(1, 4));
    }

    private static void goatOfItsCoinsInChests() {
        TrollBridges x = Scenes.tollBridge();
        x.bridge(0, 1, 1, 3);
        x.troll();
        x.post(1, 1);
        x.goat(0, 20);
        x.cross(0, 0);
        Check.same("none without a dispute", 0, x.goatOf(0, 5));
        x.dispute(1, 0);
        x.dispute(1, 1);
        Check.same("none at first", 0, x.goatOf(0, 5) + x.goatOf(1, 5));
        x.cross(0, 0);
        x.cross(0, 1);
        x.cross(1, 0);
        Check.same("in two chests", 8, x.goatOf(0, 5));
        Check.same("in one of them", 5, x.goatOf(1, 5));
        x.settle(0, true);
        Check.same("in the other one yet", 3, x.goatOf(0, 5));
        Check.same("in none", 0, x.goatOf(1, 5));
    }

    private static void goatOfItsCoinsInTheLastChest() {
        TrollBridges x = new TrollBridges();
        for (int bridge = 0; bridge < 10; bridge++) {
            x.bridge(0, 1, 1, 4);
        }
        x.troll();
        x.goat(0, 4);
        x.goat(1, 4);
        x.post(0, 9);
        x.dispute(0, 9);
        x.cross(1, 9);
        Check.same("of the goat that crossed", 4, x.goatOf(1, 5));
        Check.same("of the goat that disputes", 0, x.goatOf(0, 5));
        Check.same("in the chest", 4, x.bridgeOf(9, 7));
    }

    private static void goatOfEachOfFive() {
        TrollBridges x = Scenes.worked();
        x.strike(4, true);
        for (int goat = 0; goat < 5; goat++) {
            int[] want = {goat, 95, goat < 4 ? 0 : 1, 18, 2, 0};
            for (int what = 0; what < want.length; what++) {
                Check.same("goat " + goat + ", " + what, want[what], x.goatOf(goat, what));
            }
        }
    }

    private static void goatOfNone() {
        TrollBridges x = new TrollBridges();
        x.bridge(0, 1, 1, 1);
        x.troll();
        Check.noSuch("there is none at all", () -> x.goatOf(0, 0));
        x.goat(3, 1);
        x.goat(4, 1);
        for (int goat : Check.outside(0, 1)) {
            Check.noSuch("goat " + goat, () -> x.goatOf(goat, 0));
        }
        Check.noSuch("ahead of what is too high", () -> x.goatOf(2, 6));
        Check.noSuch("ahead of what is too low", () -> x.goatOf(-1, -1));
        Check.same("the last one there", 4, x.goatOf(1, 0));
        x.undo();
        Check.noSuch("one that was undone", () -> x.goatOf(1, 0));
    }

    private static void goatOfNoSuchNumber() {
        TrollBridges x = Scenes.full();
        for (int what : Check.outside(0, 5)) {
            Check.badNumber("what " + what, () -> x.goatOf(4, what));
        }
        Check.same("the last one there", 0, x.goatOf(4, 5));
    }

    // ---- promise 18

    private static void due(Boundaries document) {
        document.test(18, "Returns the toll that is due at a bridge.", BoundaryNumbersTest::dueLeastAndMost);
        document.test(18, "Returns the toll that is due at a bridge.", BoundaryNumbersTest::dueNothing);
        document.test(18, "if there is no such bridge", BoundaryNumbersTest::dueAtNone);
    }

    private static void dueLeastAndMost() {
        TrollBridges x = new TrollBridges();
        x.bridge(0, 1, 1, 9);
        x.bridge(0, 1, 1, 0);
        x.troll();
        x.troll();
        x.post(0, 0);
        x.post(1, 1);
        Check.same("the most", 9, x.due(0));
        Check.same("the least", 0, x.due(1));
        x.fog(0, 1);
        x.goat(0, 0);
        x.dispute(0, 0);
        Check.same("in fog, disputed", 9, x.due(0));
    }

    private static void dueNothing() {
        TrollBridges x = Scenes.tollBridge();
        Check.same("a troll counts it", 5, x.due(0));
        x.strike(0, true);
        Check.same("the only goat is on strike", 0, x.due(0));
        x.strike(0, false);
        Check.same("no goat is on strike", 5, x.due(0));
        x.leave(0);
        Check.same("no troll counts it", 0, x.due(0));
    }

    private static void dueAtNone() {
        TrollBridges x = new TrollBridges();
        Check.noSuch("there is none at all", () -> x.due(0));
        x.bridge(0, 1, 1, 3);
        x.bridge(0, 1, 1, 4);
        x.troll();
        x.post(0, 1);
        for (int bridge : Check.outside(0, 1)) {
            Check.noSuch("bridge " + bridge, () -> x.due(bridge));
        }
        Check.same("the last one there", 4, x.due(1));
    }

    // ---- promise 19

    private static void takes(Boundaries document) {
        document.test(19, "Returns how many hours it takes to cross a bridge.", BoundaryNumbersTest::takesLeast);
        document.test(19, "Returns how many hours it takes to cross a bridge.", BoundaryNumbersTest::takesMost);
        document.test(19, "Returns how many hours it takes to cross a bridge.", BoundaryNumbersTest::takesOfTheLast);
        document.test(19, "Returns how many hours it takes to cross a bridge.",
                BoundaryNumbersTest::takesWithoutATroll);
        document.test(19, "if there is no such bridge", BoundaryNumbersTest::takesOfNone);
    }

    private static void takesLeast() {
        TrollBridges x = new TrollBridges();
        x.bridge(0, 1, 1, 0);
        x.troll();
        x.post(0, 0);
        Check.same("a troll without a riddle", 1, x.takes(0));
        x.riddle(0, 1, 1);
        Check.same("the least riddle", 2, x.takes(0));
        x.pass(1);
        Check.same("at the hour at which it expired", 1, x.takes(0));
        x.fog(0, 1);
        Check.same("fog", 2, x.takes(0));
        x.pass(1);
        Check.same("at the hour at which it lifted", 1, x.takes(0));
    }

    private static void takesMost() {
        TrollBridges x = new TrollBridges();
        x.bridge(0, 1, 9, 0);
        x.troll();
        x.post(0, 0);
        x.riddle(0, 9, 48);
        x.fog(0, 48);
        Check.same("fog and a riddle, which is not doubled", 27, x.takes(0));
        x.pass(47);
        Check.same("in the last hour of both", 27, x.takes(0));
        x.pass(1);
        Check.same("when both ended", 9, x.takes(0));
        Check.same("none crossed", 0, x.account(12));
    }

    private static void takesOfTheLast() {
        TrollBridges x = Scenes.bridgesAndTrolls();
        x.post(5, 9);
        x.post(4, 0);
        x.riddle(5, 9, 2);
        x.riddle(0, 3, 2);
        Check.same("the last troll's riddle at the last bridge", 10, x.takes(9));
        Check.same("no riddle of the troll at the first", 1, x.takes(0));
        Check.same("no troll", 1, x.takes(5));
        x.fog(9, 1);
        Check.same("fog at the last", 11, x.takes(9));
        Check.same("no fog at the first", 1, x.takes(0));
    }

    private static void takesWithoutATroll() {
        TrollBridges x = Scenes.worked();
        x.post(5, 9);
        x.dispute(4, 9);
        x.cross(4, 9);
        x.cross(3, 3);
        x.cross(3, 9);
        x.riddle(5, 9, 48);
        for (int bridge = 5; bridge < 9; bridge++) {
            Check.same("no troll at bridge " + bridge, 9, x.takes(bridge));
        }
        Check.same("the troll at the last bridge", 18, x.takes(9));
    }

    private static void takesOfNone() {
        TrollBridges x = new TrollBridges();
        Check.noSuch("there is none at all", () -> x.takes(0));
        x.bridge(0, 1, 3, 1);
        x.bridge(0, 1, 4, 1);
        for (int bridge : Check.outside(0, 1)) {
            Check.noSuch("bridge " + bridge, () -> x.takes(bridge));
        }
        Check.same("the last one there", 4, x.takes(1));
    }
}
