import java.io.IOException;

/** What the sentences of the promises 25 to 32 say of boundary cases: sums, counts, orders, what is next. */
public final class BoundaryOrdersTest {
    private BoundaryOrdersTest() {
    }

    public static void main(String[] args) throws IOException {
        Boundaries document = new Boundaries(25, 32);
        sum(document);
        counted(document);
        isGeneral(document);
        richest(document);
        tired(document);
        next(document);
        isWell(document);
        document.finish("BoundaryOrdersTest");
    }

    // ---- promise 25

    private static void sum(Boundaries document) {
        document.test(25, "Returns the sum of the tolls of bridges, as they were told.", BoundaryOrdersTest::sumOfNone);
        document.test(25, "Returns the sum of the tolls of bridges, as they were told.", BoundaryOrdersTest::sumOfTen);
        document.test(25, "Returns the sum of the tolls of bridges, as they were told.",
                BoundaryOrdersTest::sumWithTrollsAndGoats);
        document.test(25, "as they were told", BoundaryOrdersTest::sumOfTollsThatAreNotDue);
        document.test(25, "whether those in fog are summed, too", BoundaryOrdersTest::sumWithAndWithoutFog);
    }

    private static void sumOfNone() {
        TrollBridges x = new TrollBridges();
        Check.same("all", 0, x.sum(true));
        Check.same("without fog", 0, x.sum(false));
        x.bridge(0, 1, 1, 9);
        x.undo();
        Check.same("all, when the only one is undone", 0, x.sum(true));
    }

    private static void sumOfTen() {
        TrollBridges x = new TrollBridges();
        for (int bridge = 0; bridge < 10; bridge++) {
            x.bridge(0, 1, 1, 9);
            Check.same("all", 9 * bridge + 9, x.sum(true));
            Check.same("without fog", 9 * bridge + 9, x.sum(false));
        }
        x.price(9, 0);
        Check.same("the last one for nothing", 81, x.sum(true));
        x.price(0, 0);
        Check.same("the first one, too", 72, x.sum(false));
    }

    private static void sumWithTrollsAndGoats() {
        TrollBridges x = Scenes.worked();
        Check.same("all", 20, x.sum(true));
        Check.same("without fog", 20, x.sum(false));
        x.fog(9, 48);
        Check.same("the last in fog", 18, x.sum(false));
    }

    private static void sumOfTollsThatAreNotDue() {
        TrollBridges x = Scenes.tollBridge();
        Check.same("due", 5, x.sum(true));
        x.strike(0, true);
        Check.same("in a general strike", 5, x.sum(true));
        x.leave(0);
        Check.same("not counted", 5, x.sum(false));
        x.price(0, 7);
        Check.same("as it was told at last", 7, x.sum(true));
    }

    private static void sumWithAndWithoutFog() {
        TrollBridges x = new TrollBridges();
        x.bridge(0, 1, 1, 1);
        x.bridge(0, 1, 1, 2);
        x.bridge(0, 1, 1, 4);
        x.fog(0, 1);
        x.fog(2, 2);
        Check.same("two in fog, all", 7, x.sum(true));
        Check.same("two in fog, without them", 2, x.sum(false));
        x.pass(1);
        Check.same("one lifts at this hour", 3, x.sum(false));
        x.fog(0, 1);
        x.fog(1, 1);
        Check.same("all in fog", 0, x.sum(false));
        Check.same("all in fog, all", 7, x.sum(true));
        x.pass(1);
        Check.same("all lifted", 7, x.sum(false));
    }

    // ---- promises 26 and 27

    private static void counted(Boundaries document) {
        String[] quotes = {"Returns how many bridges are counted: troll by troll.",
            "Returns the same by a second way: bridge by bridge."};
        for (int index = 0; index < 2; index++) {
            boolean isAgain = index == 1;
            document.test(26 + index, quotes[index], () -> countedNone(isAgain));
            document.test(26 + index, quotes[index], () -> countedUpToSix(isAgain));
            document.test(26 + index, quotes[index], () -> countedInFogAndStrike(isAgain));
        }
    }

    private static int counted(TrollBridges x, boolean isAgain) {
        return isAgain ? x.countedAgain() : x.counted();
    }

    private static void countedNone(boolean isAgain) {
        Check.same("a new object", 0, counted(new TrollBridges(), isAgain));
        Check.same("bridges and trolls apart", 0, counted(Scenes.bridgesAndTrolls(), isAgain));
    }

    private static void countedUpToSix(boolean isAgain) {
        TrollBridges x = Scenes.bridgesAndTrolls();
        for (int troll = 0; troll < 6; troll++) {
            x.post(troll, 9 - troll);
            Check.same("one more", troll + 1, counted(x, isAgain));
        }
        x.post(0, 0);
        Check.same("as many, when one is posted elsewhere", 6, counted(x, isAgain));
        for (int troll = 0; troll < 6; troll++) {
            x.leave(troll);
            Check.same("one less", 5 - troll, counted(x, isAgain));
        }
    }

    private static void countedInFogAndStrike(boolean isAgain) {
        TrollBridges x = Scenes.tollBridge();
        x.fog(0, 1);
        x.dispute(0, 0);
        x.strike(0, true);
        Check.same("in fog, disputed, in a general strike", 1, counted(x, isAgain));
    }

    // ---- promise 28

    private static void isGeneral(Boundaries document) {
        String sentence = "Tells whether it is a general strike.";
        document.test(28, sentence, BoundaryOrdersTest::isGeneralWithoutGoats);
        document.test(28, sentence, BoundaryOrdersTest::isGeneralOfHalf);
        document.test(28, sentence, BoundaryOrdersTest::isGeneralOfOneMoreThanHalf);
    }

    private static void isGeneralWithoutGoats() {
        TrollBridges x = new TrollBridges();
        Check.no("none of none", x.isGeneral());
        x.goat(0, 0);
        Check.no("none of one", x.isGeneral());
        x.strike(0, true);
        Check.yes("one of one", x.isGeneral());
        x.undo();
        x.undo();
        Check.no("none of none again", x.isGeneral());
    }

    private static void isGeneralOfHalf() {
        TrollBridges x = new TrollBridges();
        x.goat(0, 0);
        x.goat(0, 0);
        x.strike(1, true);
        Check.no("one of two", x.isGeneral());
        x.goat(0, 0);
        x.goat(0, 0);
        x.strike(3, true);
        Check.no("two of four", x.isGeneral());
    }

    private static void isGeneralOfOneMoreThanHalf() {
        TrollBridges x = Scenes.full();
        x.strike(0, true);
        x.strike(2, true);
        Check.no("two of five", x.isGeneral());
        x.strike(4, true);
        Check.yes("three of five", x.isGeneral());
        x.strike(1, true);
        x.strike(3, true);
        Check.yes("all of five", x.isGeneral());
        x.strike(0, false);
        x.strike(1, false);
        x.strike(2, false);
        Check.no("two of five again", x.isGeneral());
    }

    // ---- promise 29

    private static void richest(Boundaries document) {
        document.test(29, "the most first", BoundaryOrdersTest::richestByCoins);
        document.test(29, "of several the one whose bridge was crossed more often",
                BoundaryOrdersTest::richestByCrossings);
        document.test(29, "of several the one whose bridge was crossed more often",
                BoundaryOrdersTest::richestByCrossingsOfEachBridge);
        document.test(29, "none counting as never", BoundaryOrdersTest::richestWithoutABridge);
        document.test(29, "then the lowest", BoundaryOrdersTest::richestByNumber);
        document.test(29, "`place`: the place, from 0", BoundaryOrdersTest::richestFirstAndLastPlace);
        document.test(29, "if there is no such place", BoundaryOrdersTest::richestInNoPlace);
    }

    private static void checkRichest(String what, TrollBridges x, int... want) {
        for (int place = 0; place < want.length; place++) {
            Check.same(what + ", place " + place, want[place], x.richest(place));
        }
    }

    /** Bridges 0 to 4 from land 0 to 1, tolls 0 to 4, trolls 0 to 4 at them, and goat 0 with 99 coins. */
    private static TrollBridges fiveTolls() {
        TrollBridges x = new TrollBridges();
        for (int bridge = 0; bridge < 5; bridge++) {
            x.bridge(0, 1, 1, bridge);
            x.troll();
            x.post(bridge, bridge);
        }
        x.goat(0, 99);
        return x;
    }

    private static void richestByCoins() {
        TrollBridges x = fiveTolls();
        for (int bridge = 0; bridge < 5; bridge++) {
            x.cross(0, bridge);
        }
        checkRichest("from 4 coins to none", x, 4, 3, 2, 1, 0);
        for (int crossing = 0; crossing < 6; crossing++) {
            x.cross(0, 0);
        }
        checkRichest("many crossings make no coins", x, 4, 3, 2, 1, 0);
        x.dispute(0, 0);
        x.dispute(0, 4);
        x.cross(0, 4);
        x.cross(0, 3);
        checkRichest("those in chests do not count", x, 3, 4, 2, 1, 0);
    }

    private static void richestByCrossings() {
        TrollBridges x = fiveTolls();
        x.price(1, 0);
        x.price(2, 0);
        x.cross(0, 2);
        x.cross(0, 1);
        x.cross(0, 1);
        checkRichest("twice, once, and never", x, 1, 2, 0, 3, 4);
        x.leave(1);
        x.post(0, 1);
        checkRichest("crossed before the troll came", x, 0, 2, 1, 3, 4);
        x.cross(0, 2);
        checkRichest("both twice", x, 0, 2, 1, 3, 4);
        x.cross(0, 2);
        checkRichest("once more often", x, 2, 0, 1, 3, 4);
    }

    private static void richestByCrossingsOfEachBridge() {
        for (int bridge = 0; bridge < 10; bridge++) {
            TrollBridges x = new TrollBridges();
            for (int another = 0; another < 10; another++) {
                x.bridge(0, 1, 1, 0);
            }
            x.troll();
            x.troll();
            x.troll();
            x.goat(0, 0);
            x.post(2, bridge);
            x.post(1, 9 - bridge);
            checkRichest("bridge " + bridge + " was not crossed", x, 0, 1, 2);
            x.cross(0, bridge);
            checkRichest("bridge " + bridge + " was crossed", x, 2, 0, 1);
            x.cross(0, 9 - bridge);
            x.cross(0, 9 - bridge);
            checkRichest("another was crossed twice", x, 1, 2, 0);
        }
    }

    private static void richestWithoutABridge() {
        TrollBridges x = fiveTolls();
        x.leave(0);
        x.leave(2);
        checkRichest("none, and one that was never crossed", x, 0, 1, 2, 3, 4);
        x.price(3, 0);
        x.cross(0, 3);
        checkRichest("one that was crossed", x, 3, 0, 1, 2, 4);
        x.leave(3);
        checkRichest("it left that bridge", x, 0, 1, 2, 3, 4);
    }

    private static void richestByNumber() {
        TrollBridges x = new TrollBridges();
        for (int troll = 0; troll < 6; troll++) {
            x.troll();
        }
        checkRichest("all alike", x, 0, 1, 2, 3, 4, 5);
        x.bridge(0, 1, 1, 3);
        x.bridge(0, 1, 1, 3);
        x.goat(0, 9);
        x.post(5, 0);
        x.post(3, 1);
        x.cross(0, 0);
        x.cross(0, 1);
        checkRichest("two alike with coins", x, 3, 5, 0, 1, 2, 4);
    }

    private static void richestFirstAndLastPlace() {
        TrollBridges x = new TrollBridges();
        x.troll();
        Check.same("the only place", 0, x.richest(0));
        for (int troll = 1; troll < 6; troll++) {
            x.troll();
        }
        Check.same("the first of six", 0, x.richest(0));
        Check.same("the last of six", 5, x.richest(5));
    }

    private static void richestInNoPlace() {
        TrollBridges x = new TrollBridges();
        x.goat(0, 0);
        Check.noElement("there is none at all", () -> x.richest(0));
        x.troll();
        x.troll();
        for (int place : Check.outside(0, 1)) {
            Check.noElement("place " + place, () -> x.richest(place));
        }
        Check.same("the last one there", 1, x.richest(1));
        TrollBridges full = Scenes.full();
        Check.noElement("behind six", () -> full.richest(6));
    }

    // ---- promise 30

    private static void tired(Boundaries document) {
        document.test(30, "the most first", BoundaryOrdersTest::tiredByHours);
        document.test(30, "of several the one with more coins", BoundaryOrdersTest::tiredByCoins);
        document.test(30, "then the lowest", BoundaryOrdersTest::tiredByNumber);
        document.test(30, "`place`: the place, from 0", BoundaryOrdersTest::tiredFirstAndLastPlace);
        document.test(30, "if there is no such place", BoundaryOrdersTest::tiredInNoPlace);
    }

    private static void checkTired(String what, TrollBridges x, int... want) {
        for (int place = 0; place < want.length; place++) {
            Check.same(what + ", place " + place, want[place], x.tired(place));
        }
    }

    private static void tiredByHours() {
        TrollBridges x = new TrollBridges();
        for (int goat = 0; goat < 5; goat++) {
            x.bridge(0, 1, goat + 1, 0);
            x.goat(0, 50 - 10 * goat);
        }
        checkTired("none walked", x, 0, 1, 2, 3, 4);
        for (int goat = 4; goat > 0; goat--) {
            x.cross(goat, goat - 1);
        }
        checkTired("from 4 hours to none", x, 4, 3, 2, 1, 0);
        x.cross(1, 1);
        checkTired("more crossings, as many hours as one", x, 4, 1, 3, 2, 0);
    }

    private static void tiredByCoins() {
        TrollBridges x = new TrollBridges();
        x.bridge(0, 1, 1, 1);
        x.troll();
        x.post(0, 0);
        x.goat(0, 7);
        x.goat(0, 9);
        x.goat(0, 8);
        x.goat(0, 0);
        x.goat(0, 99);
        checkTired("none walked", x, 4, 1, 2, 0, 3);
        x.cross(2, 0);
        x.cross(1, 0);
        checkTired("two walked as long", x, 1, 2, 4, 0, 3);
        x.dispute(0, 0);
        x.cross(1, 0);
        x.cross(2, 0);
        x.cross(0, 0);
        x.cross(0, 0);
        checkTired("coins in chests do not count", x, 1, 2, 0, 4, 3);
    }

    private static void tiredByNumber() {
        TrollBridges x = Scenes.full();
        checkTired("all alike", x, 0, 1, 2, 3, 4);
        x.cross(3, 3);
        x.cross(1, 1);
        checkTired("two alike walked", x, 1, 3, 0, 2, 4);
    }

    private static void tiredFirstAndLastPlace() {
        TrollBridges x = new TrollBridges();
        x.goat(0, 0);
        Check.same("the only place", 0, x.tired(0));
        for (int goat = 1; goat < 5; goat++) {
            x.goat(0, 0);
        }
        Check.same("the first of five", 0, x.tired(0));
        Check.same("the last of five", 4, x.tired(4));
    }

    private static void tiredInNoPlace() {
        TrollBridges x = new TrollBridges();
        x.troll();
        Check.noElement("there is none at all", () -> x.tired(0));
        x.goat(0, 0);
        x.goat(0, 0);
        for (int place : Check.outside(0, 1)) {
            Check.noElement("place " + place, () -> x.tired(place));
        }
        Check.same("the last one there", 1, x.tired(1));
        TrollBridges full = Scenes.full();
        Check.noElement("behind five", () -> full.tired(5));
    }

    // ---- promise 31

    private static void next(Boundaries document) {
        String sentence = "Returns the hour at which the next riddle expires or fog lifts.";
        document.test(31, sentence, BoundaryOrdersTest::nextOfRiddles);
        document.test(31, sentence, BoundaryOrdersTest::nextOfFog);
        document.test(31, sentence, BoundaryOrdersTest::nextOfBoth);
        document.test(31, "if no riddle holds and there is no fog", BoundaryOrdersTest::nextOfNothing);
    }

    private static void nextOfRiddles() {
        TrollBridges x = Scenes.bridgesAndTrolls();
        x.riddle(5, 1, 48);
        Check.same("of the last troll", 48, x.next());
        x.riddle(0, 1, 47);
        Check.same("of the first, an hour sooner", 47, x.next());
        x.pass(46);
        Check.same("an hour yet", 47, x.next());
        x.pass(1);
        Check.same("the one has expired", 48, x.next());
    }

    private static void nextOfFog() {
        TrollBridges x = Scenes.bridgesAndTrolls();
        x.fog(9, 48);
        Check.same("of the last bridge", 48, x.next());
        x.fog(0, 47);
        Check.same("of the first, an hour sooner", 47, x.next());
        x.pass(46);
        Check.same("an hour yet", 47, x.next());
        x.pass(1);
        Check.same("the one has lifted", 48, x.next());
        x.fog(0, 1);
        Check.same("both at one hour", 48, x.next());
    }

    private static void nextOfBoth() {
        TrollBridges x = Scenes.bridgesAndTrolls();
        x.riddle(0, 1, 2);
        x.fog(0, 1);
        Check.same("the fog is sooner", 1, x.next());
        x.pass(1);
        Check.same("the riddle yet", 2, x.next());
        x.fog(0, 2);
        Check.same("the riddle is sooner", 2, x.next());
        x.pass(1);
        Check.same("the fog yet", 3, x.next());
    }

    private static void nextOfNothing() {
        TrollBridges full = Scenes.worked();
        Check.noElement("all ended", () -> full.next());
        TrollBridges x = new TrollBridges();
        Check.noElement("nothing at all", () -> x.next());
        x.bridge(0, 1, 1, 1);
        x.troll();
        Check.noElement("at the hour 0", () -> x.next());
        x.pass(1);
        x.riddle(0, 1, 1);
        x.fog(0, 1);
        Check.same("both at the hour 2", 2, x.next());
        x.pass(1);
        Check.noElement("at the hour at which both ended", () -> x.next());
        x.fog(0, 1);
        x.fog(0, 0);
        Check.noElement("fog that was made to lift", () -> x.next());
    }

    // ---- promise 32

    private static void isWell(Boundaries document) {
        String sentence = "are told alike by both ways";
        document.test(32, sentence, BoundaryOrdersTest::isWellWithoutAnything);
        document.test(32, sentence, BoundaryOrdersTest::isWellWithAll);
        document.test(32, sentence, BoundaryOrdersTest::isWellThroughoutADispute);
        document.test(32, sentence, BoundaryOrdersTest::isWellAfterFailuresAndUndoing);
    }

    private static void isWellWithoutAnything() {
        TrollBridges x = new TrollBridges();
        Check.yes("a new object", x.isWell());
        x.goat(0, 99);
        Check.yes("coins alone", x.isWell());
        x.troll();
        Check.yes("a troll that counts none", x.isWell());
        x.bridge(0, 1, 1, 9);
        Check.yes("most lands without ways", x.isWell());
    }

    private static void isWellWithAll() {
        Check.yes("at work before", Scenes.worked().isWell());
        TrollBridges x = Scenes.full();
        Check.yes("apart", x.isWell());
        for (int troll = 0; troll < 6; troll++) {
            x.post(troll, troll);
            x.riddle(troll, 9, 48);
            x.fog(9 - troll, 48);
        }
        for (int goat = 0; goat < 5; goat++) {
            x.dispute(goat, goat);
            x.cross(goat, goat);
        }
        Check.yes("at work", x.isWell());
        for (int goat = 0; goat < 5; goat++) {
            x.strike(goat, true);
        }
        Check.yes("on strike", x.isWell());
        x.pass(48);
        Check.yes("when all ended", x.isWell());
    }

    private static void isWellThroughoutADispute() {
        TrollBridges x = Scenes.tollBridge();
        x.cross(0, 0);
        Check.yes("coins of the troll", x.isWell());
        x.dispute(0, 0);
        x.cross(0, 0);
        Check.yes("coins in the chest", x.isWell());
        x.settle(0, false);
        Check.yes("coins given back", x.isWell());
        x.dispute(0, 0);
        x.cross(0, 0);
        x.settle(0, true);
        Check.yes("coins given to the troll", x.isWell());
        x.leave(0);
        Check.yes("the troll left with them", x.isWell());
    }

    private static void isWellAfterFailuresAndUndoing() {
        TrollBridges x = Scenes.disputed();
        x.save();
        Check.throwing("refused", UnsupportedOperationException.class,
                () -> Check.read(x, "goat 0 50;cross 0 0;settle 0+;leave 2"));
        Check.yes("a text that is refused", x.isWell());
        Check.read(x, "goat 0 50;cross 0 0;settle 0+");
        Check.yes("a text that is done", x.isWell());
        x.undo();
        Check.yes("undone", x.isWell());
        x.settle(0, false);
        x.restore();
        Check.yes("restored", x.isWell());
    }
}
