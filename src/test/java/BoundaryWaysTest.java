import java.io.IOException;

/** What the sentences of the promises 20 to 24 say of boundary cases: the cheapest and the fastest ways. */
public final class BoundaryWaysTest {
    /** One of the five calls that tell of a way between two lands. */
    private interface Way {
        int between(TrollBridges x, int from, int to);
    }

    private static final Way[] WAYS = {TrollBridges::cheapest, TrollBridges::cheapestAgain, TrollBridges::fastest,
        TrollBridges::fastestAgain, TrollBridges::hangs};

    private BoundaryWaysTest() {
    }

    public static void main(String[] args) throws IOException {
        Boundaries document = new Boundaries(20, 24);
        for (int promise = 20; promise <= 24; promise++) {
            toAndFromNoLand(document, promise);
            whereThereIsNoWay(document, promise);
            withAllThatCanCome(document, promise);
        }
        cheapest(document);
        fastest(document);
        hangs(document);
        document.finish("BoundaryWaysTest");
    }

    // ---- what the five have in common

    private static void toAndFromNoLand(Boundaries document, int promise) {
        String quote = "if there is no such land, for either";
        Way way = WAYS[promise - 20];
        document.test(promise, quote, () -> {
            TrollBridges x = lineOfLands(1, 1);
            for (int land : Check.outside(0, 5)) {
                Check.noSuch("from " + land, () -> way.between(x, land, 5));
                Check.noSuch("to " + land, () -> way.between(x, 0, land));
                Check.noSuch("from and to " + land, () -> way.between(x, land, land));
            }
        });
        document.test(promise, quote, () -> {
            TrollBridges x = new TrollBridges();
            Check.noSuch("from none, ahead of no way", () -> way.between(x, 6, 0));
            Check.noSuch("to none, ahead of no way", () -> way.between(x, 0, -1));
        });
    }

    private static void whereThereIsNoWay(Boundaries document, int promise) {
        String quote = "if there is no way";
        Way way = WAYS[promise - 20];
        document.test(promise, quote, () -> {
            TrollBridges x = new TrollBridges();
            for (int from = 0; from < 6; from++) {
                for (int to = 0; to < 6; to++) {
                    checkNoWay(way, x, from, to);
                }
            }
        });
        document.test(promise, quote, () -> {
            TrollBridges x = new TrollBridges();
            x.bridge(0, 1, 1, 1);
            x.bridge(1, 2, 1, 1);
            x.bridge(5, 4, 1, 1);
            Check.noElement("to a land without bridges", () -> way.between(x, 0, 3));
            Check.noElement("from a land without bridges", () -> way.between(x, 3, 5));
            Check.noElement("to lands beyond", () -> way.between(x, 0, 5));
            Check.noElement("from lands beyond", () -> way.between(x, 4, 2));
            x.bridge(3, 2, 1, 1);
            Check.noElement("one bridge is missing yet", () -> way.between(x, 0, 5));
            x.bridge(4, 3, 1, 1);
            Check.yes("there is one", way.between(x, 0, 5) >= 0);
            x.undo();
            Check.noElement("there is none, when that is undone", () -> way.between(x, 0, 5));
        });
    }

    /** Over the bridges of the trolls from land 0 to 1 it costs 2, and otherwise nothing; each takes 9 hours. */
    private static void withAllThatCanCome(Boundaries document, int promise) {
        String[] sentences = {"Returns what the cheapest way costs", "Returns the same", "Returns how many hours the",
            "Returns the same", "Returns the land on which a land hangs"};
        Way way = WAYS[promise - 20];
        document.test(promise, sentences[promise - 20], () -> {
            TrollBridges x = Scenes.worked();
            for (int from = 0; from < 6; from++) {
                for (int to = 0; to < 6; to++) {
                    int costs = Math.min(from, to) == 0 && from != to ? 2 : 0;
                    int hangsOn = from == to ? -1 : to - Integer.signum(to - from);
                    int[] want = {costs, costs, 9 * Math.abs(to - from), 9 * Math.abs(to - from), hangsOn};
                    Check.same("from " + from + " to " + to, want[promise - 20], way.between(x, from, to));
                }
            }
        });
    }

    private static void checkNoWay(Way way, TrollBridges x, int from, int to) {
        if (from != to) {
            Check.noElement("from " + from + " to " + to, () -> way.between(x, from, to));
        } else {
            Check.same("from a land to itself", way == WAYS[4] ? -1 : 0, way.between(x, from, to));
        }
    }

    /** From land 0 to 1, from there to 2, and so on up to 5; a troll counts each bridge. */
    private static TrollBridges lineOfLands(int span, int toll) {
        TrollBridges x = new TrollBridges();
        for (int land = 0; land < 5; land++) {
            x.bridge(land, land + 1, span, toll);
            x.troll();
            x.post(land, land);
        }
        return x;
    }

    // ---- promises 20 and 21

    private static void cheapest(Boundaries document) {
        String[] quotes = {"Returns what the cheapest way costs: land by land, the cheapest first.",
            "Returns the same by a second way: bridge by bridge, until nothing becomes cheaper."};
        for (int index = 0; index < 2; index++) {
            Way way = WAYS[index];
            int promise = 20 + index;
            document.test(promise, quotes[index], () -> costsMost(way));
            document.test(promise, quotes[index], () -> costsNothing(way));
            document.test(promise, quotes[index], () -> costsLessByMoreBridges(way));
            document.test(promise, quotes[index], () -> costsTheLeastOfSeveralBridges(way));
            document.test(promise, quotes[index], () -> costsWhatIsDueNow(way));
            document.test(promise, quotes[index], () -> costsWhatTheLastBridgesCost(way));
        }
        document.test(20, "0 for one and the same land", () -> isNoneToItself(WAYS[0]));
        document.test(21, "Returns the same", () -> isNoneToItself(WAYS[1]));
    }

    private static void costsMost(Way way) {
        TrollBridges x = lineOfLands(1, 9);
        Check.same("over all five bridges", 45, way.between(x, 0, 5));
        Check.same("back over them", 45, way.between(x, 5, 0));
        Check.same("over one", 9, way.between(x, 4, 5));
    }

    private static void costsNothing(Way way) {
        TrollBridges x = lineOfLands(9, 0);
        Check.same("tolls of 0", 0, way.between(x, 0, 5));
        TrollBridges untrolled = new TrollBridges();
        for (int land = 5; land > 0; land--) {
            untrolled.bridge(land, land - 1, 9, 9);
        }
        Check.same("no trolls", 0, way.between(untrolled, 0, 5));
    }

    private static void costsLessByMoreBridges(Way way) {
        TrollBridges x = lineOfLands(9, 1);
        x.troll();
        x.bridge(0, 5, 1, 6);
        x.post(5, 5);
        Check.same("five bridges cost one less", 5, way.between(x, 0, 5));
        x.price(5, 5);
        Check.same("both cost as much", 5, way.between(x, 0, 5));
        x.price(5, 4);
        Check.same("one bridge costs one less", 4, way.between(x, 5, 0));
        Check.same("one bridge and one back cost as much as four", 4, way.between(x, 0, 4));
        x.price(5, 0);
        Check.same("one bridge and two back", 2, way.between(x, 0, 3));
    }

    private static void costsTheLeastOfSeveralBridges(Way way) {
        TrollBridges x = new TrollBridges();
        int[] tolls = {4, 3, 2, 5};
        for (int bridge = 0; bridge < 4; bridge++) {
            x.bridge(bridge % 2, 1 - bridge % 2, 1, tolls[bridge]);
            x.troll();
            x.post(bridge, bridge);
        }
        Check.same("of four", 2, way.between(x, 0, 1));
        x.price(3, 1);
        Check.same("the last of them", 1, way.between(x, 0, 1));
        x.price(0, 0);
        Check.same("the first of them", 0, way.between(x, 1, 0));
    }

    private static void costsWhatIsDueNow(Way way) {
        TrollBridges x = lineOfLands(1, 3);
        x.goat(0, 0);
        Check.same("all tolls", 15, way.between(x, 0, 5));
        x.leave(2);
        Check.same("one bridge without a troll", 12, way.between(x, 0, 5));
        x.strike(0, true);
        Check.same("a general strike", 0, way.between(x, 0, 5));
        x.strike(0, false);
        x.fog(0, 48);
        x.riddle(0, 9, 48);
        Check.same("fog and riddles cost nothing", 12, way.between(x, 0, 5));
    }

    private static void costsWhatTheLastBridgesCost(Way way) {
        TrollBridges x = tenBridges();
        Check.same("no trolls", 0, way.between(x, 0, 5));
        for (int troll = 0; troll < 5; troll++) {
            x.troll();
            x.post(troll, 5 + troll);
        }
        Check.same("the last", 5, way.between(x, 0, 5));
        x.price(9, 9);
        Check.same("the four ahead of it", 8, way.between(x, 0, 5));
        x.price(8, 4);
        Check.same("the last again", 9, way.between(x, 0, 5));
        Check.same("three of them", 6, way.between(x, 0, 4));
    }

    /** From land 0 to 1 five times, from 1 to 2, and so on up to 5, of toll and span 2, and of 5 from 0 to 5. */
    private static TrollBridges tenBridges() {
        TrollBridges x = new TrollBridges();
        for (int bridge = 0; bridge < 9; bridge++) {
            int land = Math.max(0, bridge - 4);
            x.bridge(land, land + 1, 2, 2);
        }
        x.bridge(0, 5, 5, 5);
        return x;
    }

    private static void isNoneToItself(Way way) {
        TrollBridges x = lineOfLands(9, 9);
        for (int land = 0; land < 6; land++) {
            Check.same("land " + land, 0, way.between(x, land, land));
            Check.same("land " + land + " without bridges", 0, way.between(new TrollBridges(), land, land));
        }
    }

    // ---- promises 22 and 23

    private static void fastest(Boundaries document) {
        String[] quotes = {"Returns how many hours the fastest way takes: land by land, the fastest first.",
            "Returns the same by a second way: bridge by bridge, until nothing becomes faster."};
        for (int index = 0; index < 2; index++) {
            Way way = WAYS[2 + index];
            int promise = 22 + index;
            document.test(promise, quotes[index], () -> takesMost(way));
            document.test(promise, quotes[index], () -> takesLeast(way));
            document.test(promise, quotes[index], () -> takesLessByMoreBridges(way));
            document.test(promise, quotes[index], () -> takesTheLeastOfSeveralBridges(way));
            document.test(promise, quotes[index], () -> takesTheHoursOfNow(way));
            document.test(promise, quotes[index], () -> takesTheHoursOfTheLastBridges(way));
        }
        document.test(22, "0 for one and the same land", () -> isNoneToItself(WAYS[2]));
        document.test(23, "Returns the same", () -> isNoneToItself(WAYS[3]));
    }

    private static void takesMost(Way way) {
        TrollBridges x = lineOfLands(9, 1);
        for (int bridge = 0; bridge < 5; bridge++) {
            x.fog(bridge, 48);
            x.riddle(bridge, 9, 48);
        }
        Check.same("over all five bridges", 135, way.between(x, 0, 5));
        Check.same("back over them", 135, way.between(x, 5, 0));
        Check.same("over one", 27, way.between(x, 4, 5));
    }

    private static void takesLeast(Way way) {
        TrollBridges x = new TrollBridges();
        for (int land = 5; land > 0; land--) {
            x.bridge(land, land - 1, 1, 9);
        }
        Check.same("five bridges", 5, way.between(x, 0, 5));
        Check.same("one bridge", 1, way.between(x, 1, 0));
    }

    private static void takesLessByMoreBridges(Way way) {
        TrollBridges x = lineOfLands(1, 9);
        x.bridge(5, 0, 3, 0);
        x.fog(5, 1);
        Check.same("five bridges take an hour less", 5, way.between(x, 0, 5));
        x.pass(1);
        Check.same("one bridge takes two hours less", 3, way.between(x, 0, 5));
        Check.same("one bridge and one back take as long as four", 4, way.between(x, 0, 4));
        Check.same("three bridges take two hours less than it and back", 3, way.between(x, 0, 3));
    }

    private static void takesTheLeastOfSeveralBridges(Way way) {
        TrollBridges x = new TrollBridges();
        int[] spans = {4, 3, 2, 5};
        for (int bridge = 0; bridge < 4; bridge++) {
            x.bridge(bridge % 2, 1 - bridge % 2, spans[bridge], 0);
        }
        Check.same("of four", 2, way.between(x, 0, 1));
        x.fog(2, 1);
        Check.same("another one", 3, way.between(x, 0, 1));
        x.bridge(1, 0, 1, 0);
        Check.same("the last of them", 1, way.between(x, 0, 1));
    }

    private static void takesTheHoursOfNow(Way way) {
        TrollBridges x = lineOfLands(1, 9);
        x.goat(0, 0);
        x.strike(0, true);
        Check.same("spans", 5, way.between(x, 0, 5));
        x.riddle(1, 9, 1);
        Check.same("a riddle", 14, way.between(x, 0, 5));
        x.fog(0, 2);
        Check.same("fog besides", 15, way.between(x, 0, 5));
        x.leave(1);
        Check.same("the riddle went with its troll", 6, way.between(x, 0, 5));
        x.post(1, 1);
        x.pass(1);
        Check.same("the riddle has expired", 6, way.between(x, 0, 5));
        x.pass(1);
        Check.same("the fog has lifted", 5, way.between(x, 0, 5));
    }

    private static void takesTheHoursOfTheLastBridges(Way way) {
        TrollBridges x = tenBridges();
        Check.same("over the last", 5, way.between(x, 0, 5));
        x.fog(9, 1);
        Check.same("over the five ahead of it, or it in fog", 10, way.between(x, 0, 5));
        x.fog(8, 48);
        Check.same("over it in fog", 10, way.between(x, 5, 0));
        Check.same("over the one ahead of it in fog", 4, way.between(x, 4, 5));
        x.pass(1);
        Check.same("over the last again", 5, way.between(x, 5, 0));
        Check.same("over three of them", 6, way.between(x, 1, 4));
    }

    // ---- promise 24

    private static void hangs(Boundaries document) {
        String sentence = "Returns the land on which a land hangs, by the fastest ways from a land.";
        document.test(24, sentence, BoundaryWaysTest::hangsByTheFastest);
        document.test(24, sentence, BoundaryWaysTest::hangsOnTheLowestOfSeveral);
        document.test(24, sentence, BoundaryWaysTest::hangsOnLand0And5);
        document.test(24, sentence, BoundaryWaysTest::hangsByTheLastBridges);
        document.test(24, "-1 for the one from which they go", BoundaryWaysTest::hangsOnNone);
    }

    private static void hangsByTheFastest() {
        TrollBridges x = new TrollBridges();
        x.bridge(0, 3, 3, 0);
        x.bridge(0, 1, 1, 0);
        x.bridge(1, 3, 1, 0);
        Check.same("an hour sooner by another land", 1, x.hangs(0, 3));
        x.fog(1, 1);
        Check.same("as soon at once", 0, x.hangs(0, 3));
        x.fog(2, 1);
        Check.same("an hour sooner at once", 0, x.hangs(0, 3));
        Check.same("on the way back", 3, x.hangs(3, 0));
    }

    private static void hangsOnTheLowestOfSeveral() {
        TrollBridges x = new TrollBridges();
        x.bridge(0, 4, 1, 0);
        x.bridge(4, 5, 1, 0);
        x.bridge(0, 3, 1, 0);
        x.bridge(3, 5, 1, 0);
        Check.same("of two, the later bridge", 3, x.hangs(0, 5));
        x.bridge(5, 1, 1, 0);
        x.bridge(1, 0, 1, 0);
        Check.same("of three", 1, x.hangs(0, 5));
        x.fog(5, 1);
        Check.same("a lower land by which it is reached later", 3, x.hangs(0, 5));
        x.bridge(0, 5, 2, 0);
        Check.same("the one from which they go, as it is lower", 0, x.hangs(0, 5));
        TrollBridges down = new TrollBridges();
        down.bridge(5, 0, 2, 0);
        down.bridge(5, 1, 1, 0);
        down.bridge(1, 0, 1, 0);
        Check.same("not the one from which they go, as it is higher", 1, down.hangs(5, 0));
    }

    private static void hangsOnLand0And5() {
        TrollBridges x = lineOfLands(1, 1);
        for (int land = 1; land < 6; land++) {
            Check.same("on the one before", land - 1, x.hangs(0, land));
            Check.same("on the one behind", land, x.hangs(5, land - 1));
        }
    }

    private static void hangsByTheLastBridges() {
        TrollBridges x = new TrollBridges();
        for (int bridge = 0; bridge < 7; bridge++) {
            x.bridge(2, 4, 9, 0);
        }
        x.bridge(2, 3, 1, 0);
        x.bridge(3, 4, 2, 0);
        Check.same("by the two last", 3, x.hangs(2, 4));
        x.bridge(2, 4, 3, 0);
        Check.same("by the last", 2, x.hangs(2, 4));
        x.fog(9, 1);
        Check.same("by the two ahead of it", 3, x.hangs(2, 4));
    }

    private static void hangsOnNone() {
        TrollBridges x = lineOfLands(1, 0);
        x.bridge(0, 5, 1, 0);
        for (int land = 0; land < 6; land++) {
            Check.same("land " + land, -1, x.hangs(land, land));
            Check.same("land " + land + " without bridges", -1, new TrollBridges().hangs(land, land));
        }
    }
}
