import java.io.IOException;
import java.util.List;

/** What the sentences of the promises 1 to 7 say of boundary cases: a new object, what comes, posts and riddles. */
public final class BoundaryChangesTest {
    private static final String NO_LAND = "`IndexOutOfBoundsException` if there is no such land";
    private static final String NO_TROLL = "`IndexOutOfBoundsException` if there is no such troll";
    private static final String OUT_OF_RANGE = "`IllegalArgumentException`";
    private static final String REFUSED = "`UnsupportedOperationException`";

    private BoundaryChangesTest() {
    }

    public static void main(String[] args) throws IOException {
        Boundaries document = new Boundaries(1, 7);
        newObject(document);
        bridge(document);
        troll(document);
        goat(document);
        post(document);
        leave(document);
        riddle(document);
        document.finish("BoundaryChangesTest");
    }

    // ---- promise 1

    private static void newObject(Boundaries document) {
        String begins = "Begins without bridges, trolls and goats, at the hour 0.";
        document.test(1, begins, BoundaryChangesTest::newObjectIsEmpty);
        document.test(1, begins, BoundaryChangesTest::newObjectIsEmptyBesideAnother);
    }

    private static void newObjectIsEmpty() {
        checkEmpty(new TrollBridges());
    }

    private static void newObjectIsEmptyBesideAnother() {
        TrollBridges full = Scenes.full();
        full.save();
        full.tell(0);
        Check.type(full, "pass");
        Check.refused(full, "full", 1, 6, () -> full.troll());
        checkEmpty(new TrollBridges());
        Check.same("the other stays full", 10, full.account(0));
    }

    private static void checkEmpty(TrollBridges x) {
        for (int what = 0; what <= 14; what++) {
            Check.same("account " + what, 0, x.account(what));
        }
        Check.noSuch("no bridge 0", () -> x.bridgeOf(0, 0));
        Check.noSuch("no troll 0", () -> x.trollOf(0, 0));
        Check.noSuch("no goat 0", () -> x.goatOf(0, 0));
        Check.noElement("no way", () -> x.fastest(0, 1));
        Check.noElement("no troll is the richest", () -> x.richest(0));
        Check.noElement("no goat is the most tired", () -> x.tired(0));
        Check.noElement("nothing is next", () -> x.next());
        Check.noElement("no error position", () -> x.errorPosition());
        Check.noElement("no refusal", () -> x.refusal(false, false));
        Check.noElement("no line", () -> x.written(0));
        Check.badState("no change", () -> x.undo());
        Check.badState("no snapshot", () -> x.restore());
    }

    // ---- promise 2

    private static void bridge(Boundaries document) {
        document.test(2, "Returns its number.", BoundaryChangesTest::bridgeNumbersFrom0To9);
        document.test(2, NO_LAND, BoundaryChangesTest::bridgeOneIsNoLand);
        document.test(2, NO_LAND, BoundaryChangesTest::bridgeOtherIsNoLand);
        document.test(2, NO_LAND, BoundaryChangesTest::bridgeNoLandAheadOfTheRest);
        document.test(2, NO_LAND, BoundaryChangesTest::bridgeBetweenAllLands);
        document.test(2, OUT_OF_RANGE, BoundaryChangesTest::bridgeSpanOutOfRange);
        document.test(2, OUT_OF_RANGE, BoundaryChangesTest::bridgeTollOutOfRange);
        document.test(2, OUT_OF_RANGE, BoundaryChangesTest::bridgeNumbersInRange);
        document.test(2, OUT_OF_RANGE, BoundaryChangesTest::bridgeOutOfRangeAheadOfReasons);
        document.test(2, REFUSED, BoundaryChangesTest::bridgeFromALandToItself);
        document.test(2, REFUSED, BoundaryChangesTest::bridgeBeyondTen);
        document.test(2, REFUSED, BoundaryChangesTest::bridgeReason2AheadOf1);
        document.test(2, REFUSED, BoundaryChangesTest::bridgeThatFailsChangesNothing);
    }

    private static void bridgeNumbersFrom0To9() {
        TrollBridges x = new TrollBridges();
        for (int bridge = 0; bridge < 10; bridge++) {
            Check.same("number", bridge, x.bridge(0, 1, 1, 1));
        }
        x.undo();
        Check.same("the number of one that was undone", 9, x.bridge(0, 1, 1, 1));
    }

    private static void bridgeOneIsNoLand() {
        TrollBridges x = new TrollBridges();
        for (int land : Check.outside(0, 5)) {
            Check.noSuch("one is " + land, () -> x.bridge(land, 5, 1, 1));
        }
        Check.same("none came", 0, x.account(0));
    }

    private static void bridgeOtherIsNoLand() {
        TrollBridges x = new TrollBridges();
        for (int land : Check.outside(0, 5)) {
            Check.noSuch("other is " + land, () -> x.bridge(0, land, 1, 1));
        }
        Check.same("none came", 0, x.account(0));
    }

    private static void bridgeNoLandAheadOfTheRest() {
        TrollBridges x = Scenes.full();
        Check.noSuch("one, ahead of the span", () -> x.bridge(6, 0, 0, 1));
        Check.noSuch("other, ahead of the toll", () -> x.bridge(0, -1, 1, 10));
        Check.noSuch("both are the same that is none", () -> x.bridge(6, 6, 1, 1));
        Check.noSuch("ahead of reason 1", () -> x.bridge(0, 6, 1, 1));
        Check.noElement("no reason is kept", () -> x.refusal(false, false));
    }

    private static void bridgeBetweenAllLands() {
        for (int one = 0; one < 6; one++) {
            TrollBridges x = new TrollBridges();
            for (int other = 0; other < 6; other++) {
                if (one != other) {
                    int bridge = x.bridge(one, other, 1, 1);
                    Check.same("one", one, x.bridgeOf(bridge, 0));
                    Check.same("other", other, x.bridgeOf(bridge, 1));
                }
            }
        }
    }

    private static void bridgeSpanOutOfRange() {
        TrollBridges x = new TrollBridges();
        for (int span : Check.outside(1, 9)) {
            Check.badNumber("span " + span, () -> x.bridge(0, 1, span, 1));
        }
        Check.same("none came", 0, x.account(0));
    }

    private static void bridgeTollOutOfRange() {
        TrollBridges x = new TrollBridges();
        for (int toll : Check.outside(0, 9)) {
            Check.badNumber("toll " + toll, () -> x.bridge(0, 1, 1, toll));
        }
        Check.same("none came", 0, x.account(0));
    }

    private static void bridgeNumbersInRange() {
        TrollBridges x = new TrollBridges();
        for (int number = 0; number < 10; number++) {
            int span = Math.max(1, number);
            int bridge = x.bridge(0, 1, span, number);
            Check.same("span", span, x.bridgeOf(bridge, 2));
            Check.same("toll", number, x.bridgeOf(bridge, 3));
        }
    }

    private static void bridgeOutOfRangeAheadOfReasons() {
        TrollBridges x = new TrollBridges();
        Check.badNumber("span, ahead of reason 2", () -> x.bridge(2, 2, 10, 1));
        Check.badNumber("toll, ahead of reason 2", () -> x.bridge(2, 2, 1, -1));
        TrollBridges full = Scenes.full();
        Check.badNumber("span, ahead of reason 1", () -> full.bridge(2, 3, 0, 1));
        Check.badNumber("toll, ahead of reason 1", () -> full.bridge(2, 3, 1, 10));
        Check.noElement("no reason is kept", () -> full.refusal(false, false));
    }

    private static void bridgeFromALandToItself() {
        TrollBridges x = new TrollBridges();
        for (int land = 0; land < 6; land++) {
            int both = land;
            Check.refused(x, "both are " + land, 2, land, () -> x.bridge(both, both, 1, 1));
        }
        Check.same("none came", 0, x.account(0));
    }

    private static void bridgeBeyondTen() {
        TrollBridges x = new TrollBridges();
        for (int bridge = 0; bridge < 10; bridge++) {
            x.bridge(4, 5, 1, 1);
        }
        Check.refused(x, "an eleventh", 1, 10, () -> x.bridge(0, 1, 1, 1));
        Check.refused(x, "an eleventh again", 1, 10, () -> x.bridge(4, 5, 9, 0));
        Check.same("ten are there", 10, x.account(0));
        Check.noSuch("no bridge 10", () -> x.bridgeOf(10, 0));
    }

    private static void bridgeReason2AheadOf1() {
        TrollBridges x = Scenes.full();
        Check.refused(x, "an eleventh from a land to itself", 2, 5, () -> x.bridge(5, 5, 1, 1));
    }

    private static void bridgeThatFailsChangesNothing() {
        Check.unchanged("bridge", Scenes::disputed, List.of(
                x -> x.bridge(0, 6, 1, 1), x -> x.bridge(0, 1, 0, 1), x -> x.bridge(3, 3, 1, 1)));
        Check.unchanged("bridge beyond ten", Scenes::full, List.of(x -> x.bridge(0, 1, 1, 1)));
    }

    // ---- promise 3

    private static void troll(Boundaries document) {
        document.test(3, "Returns its number.", BoundaryChangesTest::trollNumbersFrom0To5);
        document.test(3, REFUSED, BoundaryChangesTest::trollBeyondSix);
        document.test(3, REFUSED, BoundaryChangesTest::trollThatFailsChangesNothing);
    }

    private static void trollNumbersFrom0To5() {
        TrollBridges x = new TrollBridges();
        for (int troll = 0; troll < 6; troll++) {
            Check.same("number", troll, x.troll());
        }
        x.undo();
        Check.same("the number of one that was undone", 5, x.troll());
    }

    private static void trollBeyondSix() {
        TrollBridges x = new TrollBridges();
        for (int troll = 0; troll < 6; troll++) {
            x.troll();
        }
        Check.refused(x, "a seventh", 1, 6, () -> x.troll());
        Check.refused(x, "a seventh again", 1, 6, () -> x.troll());
        Check.same("six are there", 6, x.account(1));
        Check.noSuch("no troll 6", () -> x.trollOf(6, 0));
    }

    private static void trollThatFailsChangesNothing() {
        Check.unchanged("troll", Scenes::full, List.of(x -> x.troll()));
    }

    // ---- promise 4

    private static void goat(Boundaries document) {
        document.test(4, "Returns its number.", BoundaryChangesTest::goatNumbersFrom0To4);
        document.test(4, NO_LAND, BoundaryChangesTest::goatInNoLand);
        document.test(4, NO_LAND, BoundaryChangesTest::goatNoLandAheadOfTheRest);
        document.test(4, NO_LAND, BoundaryChangesTest::goatInAllLands);
        document.test(4, OUT_OF_RANGE, BoundaryChangesTest::goatCoinsOutOfRange);
        document.test(4, OUT_OF_RANGE, BoundaryChangesTest::goatCoinsInRange);
        document.test(4, OUT_OF_RANGE, BoundaryChangesTest::goatOutOfRangeAheadOfReason1);
        document.test(4, REFUSED, BoundaryChangesTest::goatBeyondFive);
        document.test(4, REFUSED, BoundaryChangesTest::goatThatFailsChangesNothing);
    }

    private static void goatNumbersFrom0To4() {
        TrollBridges x = new TrollBridges();
        for (int goat = 0; goat < 5; goat++) {
            Check.same("number", goat, x.goat(0, 1));
        }
        x.undo();
        Check.same("the number of one that was undone", 4, x.goat(0, 1));
    }

    private static void goatInNoLand() {
        TrollBridges x = new TrollBridges();
        for (int land : Check.outside(0, 5)) {
            Check.noSuch("land " + land, () -> x.goat(land, 1));
        }
        Check.same("none came", 0, x.account(2));
        Check.same("no coins came", 0, x.account(8));
    }

    private static void goatNoLandAheadOfTheRest() {
        TrollBridges x = Scenes.full();
        Check.noSuch("ahead of the coins", () -> x.goat(6, 100));
        Check.noSuch("ahead of reason 1", () -> x.goat(-1, 1));
        Check.noElement("no reason is kept", () -> x.refusal(false, false));
    }

    private static void goatInAllLands() {
        for (int land = 0; land < 6; land++) {
            TrollBridges x = new TrollBridges();
            x.goat(land, 1);
            Check.same("land", land, x.goatOf(0, 0));
        }
    }

    private static void goatCoinsOutOfRange() {
        TrollBridges x = new TrollBridges();
        for (int coins : Check.outside(0, 99)) {
            Check.badNumber(coins + " coins", () -> x.goat(0, coins));
        }
        Check.same("none came", 0, x.account(2));
    }

    private static void goatCoinsInRange() {
        int[] allowed = {0, 1, 50, 98, 99};
        TrollBridges x = new TrollBridges();
        for (int goat = 0; goat < 5; goat++) {
            x.goat(0, allowed[goat]);
            Check.same("coins", allowed[goat], x.goatOf(goat, 1));
        }
    }

    private static void goatOutOfRangeAheadOfReason1() {
        TrollBridges x = Scenes.full();
        Check.badNumber("too few", () -> x.goat(0, -1));
        Check.badNumber("too many", () -> x.goat(0, 100));
        Check.noElement("no reason is kept", () -> x.refusal(false, false));
    }

    private static void goatBeyondFive() {
        TrollBridges x = new TrollBridges();
        for (int goat = 0; goat < 5; goat++) {
            x.goat(0, 1);
        }
        Check.refused(x, "a sixth", 1, 5, () -> x.goat(0, 1));
        Check.refused(x, "a sixth again", 1, 5, () -> x.goat(5, 99));
        Check.same("five are there", 5, x.account(2));
        Check.same("its coins did not come", 5, x.account(8));
        Check.noSuch("no goat 5", () -> x.goatOf(5, 0));
    }

    private static void goatThatFailsChangesNothing() {
        Check.unchanged("goat", Scenes::disputed, List.of(x -> x.goat(6, 1), x -> x.goat(0, 100)));
        Check.unchanged("goat beyond five", Scenes::full, List.of(x -> x.goat(0, 1)));
    }

    // ---- promise 5

    private static void post(Boundaries document) {
        document.test(5, "Returns the bridge that it counted before, -1 for none.",
                BoundaryChangesTest::postReturnsTheBridgeBefore);
        document.test(5, "no such troll or bridge", BoundaryChangesTest::postNoTroll);
        document.test(5, "no such troll or bridge", BoundaryChangesTest::postNoBridge);
        document.test(5, "no such troll or bridge", BoundaryChangesTest::postNoneAheadOfReasons);
        document.test(5, "for the reason 3, with the bridge", BoundaryChangesTest::postWhereItIs);
        document.test(5, "10, for the bridge that it counts", BoundaryChangesTest::postFromADisputedBridge);
        document.test(5, "or 4", BoundaryChangesTest::postWhereAnotherIs);
        document.test(5, REFUSED, BoundaryChangesTest::postReason3AheadOf10And4);
        document.test(5, REFUSED, BoundaryChangesTest::postReason10AheadOf4);
        document.test(5, REFUSED, BoundaryChangesTest::postThatFailsChangesNothing);
    }

    private static void postReturnsTheBridgeBefore() {
        TrollBridges x = Scenes.bridgesAndTrolls();
        Check.same("none at first", -1, x.post(0, 0));
        Check.same("bridge 0, which is not none", 0, x.post(0, 9));
        Check.same("the last bridge", 9, x.post(0, 3));
        x.leave(0);
        Check.same("none after it left", -1, x.post(0, 3));
        Check.same("none of another troll", -1, x.post(5, 0));
    }

    private static void postNoTroll() {
        TrollBridges x = new TrollBridges();
        x.bridge(0, 1, 1, 1);
        Check.noSuch("there is none at all", () -> x.post(0, 0));
        x.troll();
        x.troll();
        for (int troll : Check.outside(0, 1)) {
            Check.noSuch("troll " + troll, () -> x.post(troll, 0));
        }
        Check.same("none is posted", 0, x.counted());
        Check.same("the last troll there", -1, x.post(1, 0));
    }

    private static void postNoBridge() {
        TrollBridges x = new TrollBridges();
        x.troll();
        Check.noSuch("there is none at all", () -> x.post(0, 0));
        x.bridge(0, 1, 1, 1);
        x.bridge(0, 1, 1, 1);
        for (int bridge : Check.outside(0, 1)) {
            Check.noSuch("bridge " + bridge, () -> x.post(0, bridge));
        }
        Check.same("none is posted", 0, x.counted());
        Check.same("the last bridge there", -1, x.post(0, 1));
    }

    private static void postNoneAheadOfReasons() {
        TrollBridges x = Scenes.disputed();
        Check.noSuch("no troll, at a bridge that another counts", () -> x.post(3, 0));
        Check.noSuch("no bridge, of a troll whose bridge is disputed", () -> x.post(0, 3));
        Check.noElement("no reason is kept", () -> x.refusal(false, false));
    }

    private static void postWhereItIs() {
        TrollBridges x = Scenes.bridgesAndTrolls();
        x.post(0, 0);
        x.post(5, 9);
        Check.refused(x, "bridge 0", 3, 0, () -> x.post(0, 0));
        Check.refused(x, "bridge 9", 3, 9, () -> x.post(5, 9));
        Check.same("both are posted", 2, x.counted());
        x.leave(0);
        Check.same("no more, when it has left", -1, x.post(0, 0));
    }

    private static void postFromADisputedBridge() {
        TrollBridges x = Scenes.bridgesAndTrolls();
        x.goat(0, 9);
        x.goat(0, 9);
        x.post(0, 0);
        x.post(1, 1);
        x.dispute(0, 0);
        Check.refused(x, "disputed by goat 0", 10, 0, () -> x.post(0, 2));
        x.dispute(1, 1);
        Check.refused(x, "disputed by goat 1", 10, 1, () -> x.post(1, 2));
        x.settle(0, true);
        Check.same("no more, when it is settled", 0, x.post(0, 2));
        Check.refused(x, "the other one still", 10, 1, () -> x.post(1, 0));
    }

    private static void postWhereAnotherIs() {
        TrollBridges x = Scenes.bridgesAndTrolls();
        x.goat(0, 9);
        x.post(0, 9);
        x.post(5, 0);
        Check.refused(x, "troll 0 is there", 4, 0, () -> x.post(1, 9));
        Check.refused(x, "troll 5 is there", 4, 5, () -> x.post(0, 0));
        x.dispute(0, 9);
        Check.refused(x, "at a disputed bridge, from none", 4, 0, () -> x.post(1, 9));
        Check.same("the one stays", 9, x.trollOf(0, 0));
        x.leave(5);
        Check.same("no more, when it has left", -1, x.post(1, 0));
    }

    private static void postReason3AheadOf10And4() {
        TrollBridges x = Scenes.disputed();
        Check.refused(x, "where it is, disputed", 3, 0, () -> x.post(0, 0));
    }

    private static void postReason10AheadOf4() {
        TrollBridges x = Scenes.disputed();
        Check.refused(x, "from a disputed bridge to another troll's", 10, 1, () -> x.post(0, 1));
        Check.refused(x, "from one that is not disputed", 4, 0, () -> x.post(1, 0));
    }

    private static void postThatFailsChangesNothing() {
        Check.unchanged("post", Scenes::disputed, List.of(x -> x.post(3, 2), x -> x.post(0, 3),
                x -> x.post(0, 0), x -> x.post(0, 2), x -> x.post(0, 1), x -> x.post(1, 0), x -> x.post(2, 1)));
    }

    // ---- promise 6

    private static void leave(Boundaries document) {
        document.test(6, "Returns the bridge.", BoundaryChangesTest::leaveReturnsTheBridge);
        document.test(6, NO_TROLL, BoundaryChangesTest::leaveNoTroll);
        document.test(6, REFUSED, BoundaryChangesTest::leaveOfNone);
        document.test(6, REFUSED, BoundaryChangesTest::leaveOfADisputedBridge);
        document.test(6, REFUSED, BoundaryChangesTest::leaveThatFailsChangesNothing);
    }

    private static void leaveReturnsTheBridge() {
        TrollBridges x = Scenes.bridgesAndTrolls();
        x.post(0, 0);
        x.post(5, 9);
        Check.same("bridge 0", 0, x.leave(0));
        Check.same("bridge 9", 9, x.leave(5));
        Check.same("none is counted", 0, x.counted() + x.countedAgain());
    }

    private static void leaveNoTroll() {
        TrollBridges x = new TrollBridges();
        x.bridge(0, 1, 1, 1);
        Check.noSuch("there is none at all", () -> x.leave(0));
        x.troll();
        x.troll();
        x.post(1, 0);
        for (int troll : Check.outside(0, 1)) {
            Check.noSuch("troll " + troll, () -> x.leave(troll));
        }
        Check.noElement("no reason is kept", () -> x.refusal(false, false));
        Check.same("the last troll there", 0, x.leave(1));
    }

    private static void leaveOfNone() {
        TrollBridges x = Scenes.bridgesAndTrolls();
        Check.refused(x, "troll 0, at first", 9, 0, () -> x.leave(0));
        Check.refused(x, "troll 5, at first", 9, 5, () -> x.leave(5));
        x.post(0, 1);
        x.post(1, 0);
        Check.refused(x, "another troll", 9, 2, () -> x.leave(2));
        x.leave(1);
        Check.refused(x, "a second time", 9, 1, () -> x.leave(1));
        x.undo();
        Check.same("no more, when that is undone", 0, x.leave(1));
    }

    private static void leaveOfADisputedBridge() {
        TrollBridges x = Scenes.bridgesAndTrolls();
        x.goat(0, 9);
        x.goat(0, 9);
        x.post(3, 0);
        x.post(4, 1);
        x.dispute(0, 0);
        Check.refused(x, "disputed by goat 0", 10, 0, () -> x.leave(3));
        Check.same("the other bridge is not", 1, x.leave(4));
        x.post(4, 1);
        x.dispute(1, 1);
        Check.refused(x, "disputed by goat 1", 10, 1, () -> x.leave(4));
        x.settle(1, false);
        Check.same("no more, when it is settled", 1, x.leave(4));
    }

    private static void leaveThatFailsChangesNothing() {
        Check.unchanged("leave", Scenes::disputed, List.of(x -> x.leave(3), x -> x.leave(2), x -> x.leave(0)));
    }

    // ---- promise 7

    private static void riddle(Boundaries document) {
        document.test(7, "`hours`: for how many hours, 1 to 48", BoundaryChangesTest::riddleHoursOutOfRange);
        document.test(7, "`hours`: for how many hours, 1 to 48", BoundaryChangesTest::riddleHoursInRange);
        document.test(7, "Returns the hour at which it expires.", BoundaryChangesTest::riddleReturnsItsEnd);
        document.test(7, NO_TROLL, BoundaryChangesTest::riddleNoTroll);
        document.test(7, OUT_OF_RANGE, BoundaryChangesTest::riddleDifficultyOutOfRange);
        document.test(7, OUT_OF_RANGE, BoundaryChangesTest::riddleDifficultyInRange);
        document.test(7, OUT_OF_RANGE, BoundaryChangesTest::riddleOutOfRangeAheadOfReason5);
        document.test(7, REFUSED, BoundaryChangesTest::riddleWhileOneHolds);
        document.test(7, REFUSED, BoundaryChangesTest::riddleOfAnotherTroll);
        document.test(7, REFUSED, BoundaryChangesTest::riddleThatFailsChangesNothing);
    }

    private static void riddleHoursOutOfRange() {
        TrollBridges x = Scenes.bridgesAndTrolls();
        for (int hours : Check.outside(1, 48)) {
            Check.badNumber(hours + " hours", () -> x.riddle(0, 1, hours));
        }
        Check.same("none holds", 0, x.account(6));
    }

    private static void riddleHoursInRange() {
        TrollBridges x = Scenes.bridgesAndTrolls();
        int[] allowed = {1, 2, 24, 47, 48};
        for (int troll = 0; troll < allowed.length; troll++) {
            x.riddle(troll, 1, allowed[troll]);
            Check.same("hours", allowed[troll], x.trollOf(troll, 3));
        }
    }

    private static void riddleReturnsItsEnd() {
        TrollBridges x = Scenes.bridgesAndTrolls();
        Check.same("at the hour 0, shortest", 1, x.riddle(0, 1, 1));
        Check.same("at the hour 0, longest", 48, x.riddle(1, 1, 48));
        x.pass(48);
        Check.same("at the hour 48, longest", 96, x.riddle(0, 1, 48));
        Check.same("at the hour 48, shortest", 49, x.riddle(1, 1, 1));
    }

    private static void riddleNoTroll() {
        TrollBridges x = new TrollBridges();
        Check.noSuch("there is none at all", () -> x.riddle(0, 1, 1));
        x.troll();
        x.troll();
        for (int troll : Check.outside(0, 1)) {
            Check.noSuch("troll " + troll, () -> x.riddle(troll, 1, 1));
        }
        Check.noSuch("ahead of the difficulty", () -> x.riddle(2, 0, 1));
        Check.noSuch("ahead of the hours", () -> x.riddle(-1, 1, 0));
        Check.same("none holds", 0, x.account(6));
        Check.same("the last troll there", 1, x.riddle(1, 1, 1));
    }

    private static void riddleDifficultyOutOfRange() {
        TrollBridges x = Scenes.bridgesAndTrolls();
        for (int difficulty : Check.outside(1, 9)) {
            Check.badNumber("difficulty " + difficulty, () -> x.riddle(0, difficulty, 1));
        }
        Check.same("none holds", 0, x.account(6));
    }

    private static void riddleDifficultyInRange() {
        for (int difficulty = 1; difficulty <= 9; difficulty++) {
            TrollBridges x = Scenes.bridgesAndTrolls();
            x.riddle(0, difficulty, 1);
            Check.same("difficulty", difficulty, x.trollOf(0, 2));
        }
    }

    private static void riddleOutOfRangeAheadOfReason5() {
        TrollBridges x = Scenes.bridgesAndTrolls();
        x.riddle(0, 1, 5);
        Check.badNumber("difficulty 0", () -> x.riddle(0, 0, 1));
        Check.badNumber("difficulty 10", () -> x.riddle(0, 10, 1));
        Check.badNumber("0 hours", () -> x.riddle(0, 1, 0));
        Check.badNumber("49 hours", () -> x.riddle(0, 1, 49));
        Check.noElement("no reason is kept", () -> x.refusal(false, false));
    }

    private static void riddleWhileOneHolds() {
        TrollBridges x = Scenes.bridgesAndTrolls();
        x.riddle(0, 4, 48);
        Check.refused(x, "for all of its hours", 5, 48, () -> x.riddle(0, 4, 48));
        x.pass(47);
        Check.refused(x, "in its last hour", 5, 1, () -> x.riddle(0, 9, 48));
        Check.same("the first one holds", 4, x.trollOf(0, 2));
        x.pass(1);
        Check.same("at the hour at which it expires", 49, x.riddle(0, 2, 1));
        Check.refused(x, "the next one, for its only hour", 5, 1, () -> x.riddle(0, 1, 1));
    }

    private static void riddleOfAnotherTroll() {
        TrollBridges x = Scenes.bridgesAndTrolls();
        x.riddle(0, 4, 48);
        Check.same("one of another troll is no hindrance", 3, x.riddle(5, 9, 3));
        Check.same("the first", 4, x.trollOf(0, 2));
        Check.same("the second", 9, x.trollOf(5, 2));
        Check.same("none of a third", 0, x.trollOf(1, 2));
    }

    private static void riddleThatFailsChangesNothing() {
        Check.unchanged("riddle", Scenes::disputed, List.of(x -> x.riddle(3, 1, 1), x -> x.riddle(1, 0, 1),
                x -> x.riddle(1, 1, 49), x -> x.riddle(0, 1, 1)));
    }
}
