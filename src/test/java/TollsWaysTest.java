/** Promises 18 to 32: tolls and hours as they are now, ways, sums, counts, orders and what is well. */
public final class TollsWaysTest {
    private TollsWaysTest() {
    }

    public static void main(String[] args) {
        promise18Due();
        promise19Takes();
        promises20And21Cheapest();
        promises22And23Fastest();
        promises20To24NoWay();
        promises20To24InAnyOrder();
        promise24Hangs();
        promise25Sum();
        promises26And27Counted();
        promise28IsGeneral();
        promise29Richest();
        promise30Tired();
        promise31Next();
        promise32IsWell();
        Check.finish("TollsWaysTest");
    }

    private static void promise18Due() {
        TrollBridges x = new TrollBridges();
        x.bridge(0, 1, 1, 7);
        x.troll();
        Check.noSuch("due: bridge -1", () -> x.due(-1));
        Check.noSuch("due: bridge 1", () -> x.due(1));
        Check.same("due: not counted", 0, x.due(0));
        x.post(0, 0);
        Check.same("due: counted", 7, x.due(0));
        x.price(0, 3);
        Check.same("due: another toll", 3, x.due(0));
        x.goat(0, 9);
        x.goat(0, 9);
        x.strike(0, true);
        Check.same("due: half of the goats strike", 3, x.due(0));
        x.strike(1, true);
        Check.same("due: general strike", 0, x.due(0));
        x.goat(0, 9);
        x.goat(0, 9);
        Check.same("due: half of them again", 3, x.due(0));
        x.leave(0);
        Check.same("due: not counted again", 0, x.due(0));
    }

    private static void promise19Takes() {
        TrollBridges x = new TrollBridges();
        x.bridge(0, 1, 9, 7);
        x.bridge(0, 1, 4, 7);
        x.troll();
        x.troll();
        Check.noSuch("takes: bridge -1", () -> x.takes(-1));
        Check.noSuch("takes: bridge 2", () -> x.takes(2));
        Check.same("takes: span", 9, x.takes(0));
        x.fog(0, 2);
        Check.same("takes: fog", 18, x.takes(0));
        x.riddle(1, 9, 1);
        Check.same("takes: riddle elsewhere", 18, x.takes(0));
        x.post(1, 0);
        Check.same("takes: fog and riddle", 27, x.takes(0));
        Check.same("takes: another bridge", 4, x.takes(1));
        x.pass(1);
        Check.same("takes: riddle expired", 18, x.takes(0));
        x.pass(1);
        Check.same("takes: fog lifted", 9, x.takes(0));
        x.riddle(1, 5, 1);
        Check.same("takes: riddle alone", 14, x.takes(0));
        x.leave(1);
        Check.same("takes: troll left", 9, x.takes(0));
    }

    /** 0 to 3: at once for 9, by 1 for 8, by 1 and 2 for 7; the fastest goes at once. */
    private static TrollBridges waysOfThree() {
        TrollBridges x = new TrollBridges();
        x.bridge(0, 3, 2, 9);
        x.bridge(1, 0, 2, 1);
        x.bridge(3, 1, 3, 7);
        x.bridge(1, 2, 9, 2);
        x.bridge(2, 3, 9, 4);
        for (int troll = 0; troll < 5; troll++) {
            x.troll();
            x.post(troll, troll);
        }
        return x;
    }

    private static void promises20And21Cheapest() {
        TrollBridges x = waysOfThree();
        checkCheapest(x, 0, 3, 7);
        checkCheapest(x, 3, 0, 7);
        checkCheapest(x, 0, 2, 3);
        checkCheapest(x, 2, 2, 0);
        x.price(4, 6);
        checkCheapest(x, 0, 3, 8);
        x.price(2, 9);
        checkCheapest(x, 0, 3, 9);
        x.bridge(0, 3, 9, 5);
        checkCheapest(x, 0, 3, 0);
        TrollBridges backward = new TrollBridges();
        backward.troll();
        for (int land = 4; land >= 0; land--) {
            backward.bridge(land, land + 1, 1, 5);
        }
        backward.post(0, 4);
        checkCheapest(backward, 0, 5, 5);
        checkCheapest(backward, 1, 5, 0);
    }

    /** Each of the ways asked after one of the other measure. */
    private static void promises20To24InAnyOrder() {
        TrollBridges x = waysOfThree();
        Check.same("cheapestAgain: asked first", 7, x.cheapestAgain(0, 3));
        Check.same("fastestAgain: after it", 2, x.fastestAgain(0, 3));
        Check.same("cheapest: after it", 7, x.cheapest(0, 3));
        Check.same("hangs: after it", 0, x.hangs(0, 3));
        x.riddle(0, 4, 2);
        Check.same("cheapestAgain: after it", 7, x.cheapestAgain(0, 3));
        Check.same("fastest: after it", 5, x.fastest(0, 3));
        Check.same("cheapest: after that", 7, x.cheapest(0, 3));
        Check.same("show: after that", 9, x.show(0));
        x.fog(2, 2);
        Check.same("fastestAgain: after a change", 6, x.fastestAgain(0, 3));
    }

    private static void checkCheapest(TrollBridges x, int from, int to, int want) {
        Check.same("cheapest " + from + " " + to, want, x.cheapest(from, to));
        Check.same("cheapestAgain " + from + " " + to, want, x.cheapestAgain(from, to));
    }

    private static void promises22And23Fastest() {
        TrollBridges x = waysOfThree();
        checkFastest(x, 0, 3, 2);
        checkFastest(x, 3, 0, 2);
        checkFastest(x, 0, 2, 11);
        checkFastest(x, 4, 4, 0);
        x.riddle(0, 4, 2);
        checkFastest(x, 0, 3, 5);
        x.fog(2, 2);
        checkFastest(x, 0, 3, 6);
        checkFastest(x, 1, 3, 6);
        TrollBridges backward = new TrollBridges();
        for (int land = 4; land >= 0; land--) {
            backward.bridge(land + 1, land, 9, 5);
            backward.fog(4 - land, 9);
            backward.troll();
            backward.post(4 - land, 4 - land);
            backward.riddle(4 - land, 9, 9);
        }
        checkFastest(backward, 0, 5, 135);
        checkFastest(backward, 5, 0, 135);
    }

    private static void checkFastest(TrollBridges x, int from, int to, int want) {
        Check.same("fastest " + from + " " + to, want, x.fastest(from, to));
        Check.same("fastestAgain " + from + " " + to, want, x.fastestAgain(from, to));
    }

    private static void promises20To24NoWay() {
        TrollBridges x = new TrollBridges();
        x.bridge(0, 1, 1, 1);
        x.bridge(2, 3, 1, 1);
        int[][] none = {{0, 2}, {3, 1}, {4, 5}, {5, 0}};
        for (int[] way : none) {
            Check.noElement("cheapest: no way", () -> x.cheapest(way[0], way[1]));
            Check.noElement("cheapestAgain: no way", () -> x.cheapestAgain(way[0], way[1]));
            Check.noElement("fastest: no way", () -> x.fastest(way[0], way[1]));
            Check.noElement("fastestAgain: no way", () -> x.fastestAgain(way[0], way[1]));
            Check.noElement("hangs: no way", () -> x.hangs(way[0], way[1]));
        }
        int[][] wrong = {{-1, 0}, {6, 0}, {0, -1}, {0, 6}, {6, 6}, {Integer.MAX_VALUE, 0}};
        for (int[] way : wrong) {
            Check.noSuch("cheapest: no such land", () -> x.cheapest(way[0], way[1]));
            Check.noSuch("cheapestAgain: no such land", () -> x.cheapestAgain(way[0], way[1]));
            Check.noSuch("fastest: no such land", () -> x.fastest(way[0], way[1]));
            Check.noSuch("fastestAgain: no such land", () -> x.fastestAgain(way[0], way[1]));
            Check.noSuch("hangs: no such land", () -> x.hangs(way[0], way[1]));
        }
    }

    private static void promise24Hangs() {
        TrollBridges x = new TrollBridges();
        Check.same("hangs: the land itself, without bridges", -1, x.hangs(5, 5));
        x.bridge(5, 4, 1, 0);
        x.bridge(4, 3, 2, 0);
        x.bridge(3, 5, 4, 0);
        x.bridge(2, 5, 2, 0);
        x.bridge(2, 3, 1, 0);
        x.bridge(0, 3, 5, 0);
        Check.same("hangs: the land itself", -1, x.hangs(5, 5));
        Check.same("hangs: on the one from which they go", 5, x.hangs(5, 4));
        Check.same("hangs: the lowest of two as fast", 2, x.hangs(5, 3));
        Check.same("hangs: behind it", 3, x.hangs(5, 0));
        Check.same("hangs: from the other side", 2, x.hangs(0, 5));
        x.fog(4, 1);
        Check.same("hangs: fog on the way", 4, x.hangs(5, 3));
        x.fog(1, 1);
        Check.same("hangs: lowest, at once or by others", 2, x.hangs(5, 3));
        x.bridge(3, 5, 3, 0);
        Check.same("hangs: at once", 5, x.hangs(5, 3));
    }

    private static void promise25Sum() {
        TrollBridges x = new TrollBridges();
        Check.same("sum: none", 0, x.sum(true));
        x.bridge(0, 1, 1, 9);
        x.bridge(0, 1, 1, 4);
        x.bridge(0, 1, 1, 0);
        Check.same("sum: not counted, but told", 13, x.sum(true));
        x.fog(0, 2);
        Check.same("sum: with fog", 13, x.sum(true));
        Check.same("sum: without fog", 4, x.sum(false));
        x.price(1, 8);
        Check.same("sum: another toll", 8, x.sum(false));
        x.goat(0, 0);
        x.strike(0, true);
        Check.same("sum: in a general strike", 17, x.sum(true));
        x.pass(2);
        Check.same("sum: lifted", 17, x.sum(false));
    }

    private static void promises26And27Counted() {
        TrollBridges x = new TrollBridges();
        x.bridge(0, 1, 1, 9);
        x.bridge(0, 1, 1, 9);
        x.bridge(0, 1, 1, 9);
        x.troll();
        x.troll();
        checkCounted(x, 0);
        x.post(1, 2);
        checkCounted(x, 1);
        x.post(1, 0);
        checkCounted(x, 1);
        x.post(0, 2);
        checkCounted(x, 2);
        x.leave(1);
        checkCounted(x, 1);
    }

    private static void checkCounted(TrollBridges x, int want) {
        Check.same("counted", want, x.counted());
        Check.same("countedAgain", want, x.countedAgain());
    }

    private static void promise28IsGeneral() {
        TrollBridges x = new TrollBridges();
        Check.no("isGeneral: no goats", x.isGeneral());
        x.goat(0, 0);
        Check.no("isGeneral: none of one", x.isGeneral());
        x.strike(0, true);
        Check.yes("isGeneral: one of one", x.isGeneral());
        x.goat(0, 0);
        Check.no("isGeneral: one of two", x.isGeneral());
        x.goat(0, 0);
        x.strike(2, true);
        Check.yes("isGeneral: two of three", x.isGeneral());
        x.strike(0, false);
        Check.no("isGeneral: one of three", x.isGeneral());
    }

    private static void promise29Richest() {
        TrollBridges x = new TrollBridges();
        Check.noElement("richest: no trolls", () -> x.richest(0));
        x.bridge(0, 1, 1, 2);
        x.bridge(0, 1, 1, 0);
        x.bridge(0, 1, 1, 0);
        for (int troll = 0; troll < 6; troll++) {
            x.troll();
        }
        x.goat(0, 50);
        checkRichest("by number", x, 0, 1, 2, 3, 4, 5);
        x.post(5, 0);
        x.post(4, 1);
        x.post(2, 2);
        checkRichest("bridges that were never crossed", x, 0, 1, 2, 3, 4, 5);
        x.cross(0, 1);
        checkRichest("crossed once", x, 4, 0, 1, 2, 3, 5);
        x.cross(0, 2);
        x.cross(0, 2);
        checkRichest("crossed twice", x, 2, 4, 0, 1, 3, 5);
        x.cross(0, 0);
        checkRichest("coins first", x, 5, 2, 4, 0, 1, 3);
        x.leave(4);
        x.post(5, 1);
        x.post(3, 0);
        x.cross(0, 0);
        checkRichest("as many coins, another bridge", x, 3, 5, 2, 0, 1, 4);
        x.leave(3);
        checkRichest("as many coins, none crossed", x, 5, 3, 2, 0, 1, 4);
        x.price(0, 1);
        x.post(4, 0);
        x.cross(0, 0);
        checkRichest("one coin more, and one less", x, 5, 3, 4, 2, 0, 1);
        Check.noElement("richest: place -1", () -> x.richest(-1));
        Check.noElement("richest: place 6", () -> x.richest(6));
    }

    private static void checkRichest(String what, TrollBridges x, int... want) {
        for (int place = 0; place < want.length; place++) {
            Check.same("richest, " + what + ", " + place, want[place], x.richest(place));
        }
    }

    private static void promise30Tired() {
        TrollBridges x = new TrollBridges();
        Check.noElement("tired: no goats", () -> x.tired(0));
        x.bridge(0, 1, 1, 2);
        x.bridge(0, 1, 3, 2);
        x.goat(0, 5);
        x.goat(0, 7);
        x.goat(0, 5);
        x.goat(0, 7);
        checkTired("coins, then numbers", x, 1, 3, 0, 2);
        x.cross(2, 0);
        checkTired("one hour", x, 2, 1, 3, 0);
        x.cross(0, 1);
        checkTired("three hours, fewer coins", x, 0, 2, 1, 3);
        x.cross(2, 0);
        x.cross(2, 0);
        checkTired("as many hours, more crossings", x, 0, 2, 1, 3);
        x.cross(3, 1);
        checkTired("as many hours, more coins", x, 3, 0, 2, 1);
        x.goat(5, 8);
        x.strike(1, true);
        checkTired("one coin more", x, 3, 0, 2, 4, 1);
        Check.noElement("tired: place -1", () -> x.tired(-1));
        Check.noElement("tired: place 4", () -> x.tired(5));
    }

    private static void checkTired(String what, TrollBridges x, int... want) {
        for (int place = 0; place < want.length; place++) {
            Check.same("tired, " + what + ", " + place, want[place], x.tired(place));
        }
    }

    private static void promise31Next() {
        TrollBridges x = new TrollBridges();
        Check.noElement("next: nothing there", () -> x.next());
        x.bridge(0, 1, 1, 2);
        x.bridge(0, 1, 1, 2);
        x.troll();
        x.troll();
        x.pass(2);
        Check.noElement("next: none", () -> x.next());
        x.fog(1, 9);
        Check.same("next: fog", 11, x.next());
        x.riddle(1, 1, 5);
        Check.same("next: riddle of a troll without a bridge", 7, x.next());
        x.fog(0, 3);
        Check.same("next: other fog", 5, x.next());
        x.riddle(0, 1, 4);
        Check.same("next: fog still", 5, x.next());
        x.pass(3);
        Check.same("next: other riddle", 6, x.next());
        x.pass(2);
        Check.same("next: fog at last", 11, x.next());
        x.fog(1, 0);
        Check.noElement("next: lifted", () -> x.next());
    }

    private static void promise32IsWell() {
        TrollBridges x = waysOfThree();
        Check.yes("isWell: ways", x.isWell());
        x.goat(0, 40);
        x.goat(5, 3);
        x.cross(0, 0);
        Check.yes("isWell: coins of a troll", x.isWell());
        x.dispute(1, 0);
        x.cross(0, 0);
        Check.yes("isWell: coins in a chest", x.isWell());
        x.settle(0, false);
        x.fog(1, 5);
        x.riddle(2, 3, 3);
        x.strike(0, true);
        Check.yes("isWell: fog, riddle, strike", x.isWell());
        x.strike(1, true);
        x.leave(3);
        Check.yes("isWell: general strike, a troll left", x.isWell());
        x.undo();
        x.undo();
        Check.yes("isWell: undone", x.isWell());
    }
}
