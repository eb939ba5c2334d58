import java.io.IOException;
import java.util.List;

/** What the sentences of the promises 8 to 14 say of boundary cases: fog, prices, crossings, disputes, hours. */
public final class BoundaryMovesTest {
    private static final String NO_BRIDGE = "`IndexOutOfBoundsException` if there is no such bridge";
    private static final String NO_GOAT = "`IndexOutOfBoundsException` if there is no such goat";
    private static final String OUT_OF_RANGE = "`IllegalArgumentException`";
    private static final String REFUSED = "`UnsupportedOperationException`";

    private BoundaryMovesTest() {
    }

    public static void main(String[] args) throws IOException {
        Boundaries document = new Boundaries(8, 14);
        fog(document);
        price(document);
        cross(document);
        dispute(document);
        settle(document);
        strike(document);
        pass(document);
        document.finish("BoundaryMovesTest");
    }

    // ---- promise 8

    private static void fog(Boundaries document) {
        document.test(8, "`hours`: for how many hours from now on, 0 to 48", BoundaryMovesTest::fogHoursInRange);
        document.test(8, "`hours`: for how many hours from now on, 0 to 48", BoundaryMovesTest::fogFromNowOn);
        document.test(8, "Returns the hour at which the fog lifts.", BoundaryMovesTest::fogReturnsItsEnd);
        document.test(8, NO_BRIDGE, BoundaryMovesTest::fogNoBridge);
        document.test(8, OUT_OF_RANGE, BoundaryMovesTest::fogHoursOutOfRange);
        document.test(8, OUT_OF_RANGE, BoundaryMovesTest::fogOutOfRangeAheadOfReason3);
        document.test(8, "for the reason 3, with the hours", BoundaryMovesTest::fogThatLiftsThenAlready);
        document.test(8, "if it lifts at that hour already", BoundaryMovesTest::fogThatLiftsAtAnotherHour);
        document.test(8, "with 0 hours, if it is not in fog", BoundaryMovesTest::fogOfNoHoursWithoutFog);
        document.test(8, "with 0 hours, if it is not in fog", BoundaryMovesTest::fogOfNoHoursInFog);
        document.test(8, REFUSED, BoundaryMovesTest::fogThatFailsChangesNothing);
    }

    private static void fogHoursInRange() {
        int[] allowed = {1, 2, 47, 48};
        for (int hours : allowed) {
            TrollBridges x = Scenes.bridgesAndTrolls();
            x.fog(9, hours);
            Check.same("in fog", 1, x.bridgeOf(9, 5));
            if (hours > 1) {
                x.pass(hours - 1);
                Check.same("in fog in its last hour", 1, x.bridgeOf(9, 5));
            }
            x.pass(1);
            Check.same("lifted at its end", 0, x.bridgeOf(9, 5));
        }
    }

    private static void fogFromNowOn() {
        TrollBridges x = Scenes.bridgesAndTrolls();
        x.fog(0, 10);
        x.pass(9);
        Check.same("again as long, not longer", 19, x.fog(0, 10));
        Check.same("shorter than before", 10, x.fog(0, 1));
        x.pass(1);
        Check.same("lifted at the shorter end", 0, x.bridgeOf(0, 5));
    }

    private static void fogReturnsItsEnd() {
        TrollBridges x = Scenes.bridgesAndTrolls();
        Check.same("at the hour 0, shortest", 1, x.fog(0, 1));
        Check.same("at the hour 0, longest", 48, x.fog(1, 48));
        x.pass(47);
        Check.same("at the hour 47, longest", 95, x.fog(0, 48));
        Check.same("at the hour 47, none", 47, x.fog(0, 0));
    }

    private static void fogNoBridge() {
        TrollBridges x = new TrollBridges();
        Check.noSuch("there is none at all", () -> x.fog(0, 1));
        x.bridge(0, 1, 1, 1);
        x.bridge(0, 1, 1, 1);
        for (int bridge : Check.outside(0, 1)) {
            Check.noSuch("bridge " + bridge, () -> x.fog(bridge, 1));
        }
        Check.noSuch("ahead of the hours", () -> x.fog(2, 49));
        Check.noSuch("ahead of reason 3", () -> x.fog(-1, 0));
        Check.same("no fog", 0, x.account(7));
        Check.same("the last bridge there", 1, x.fog(1, 1));
    }

    private static void fogHoursOutOfRange() {
        TrollBridges x = Scenes.bridgesAndTrolls();
        for (int hours : Check.outside(0, 48)) {
            Check.badNumber(hours + " hours", () -> x.fog(0, hours));
        }
        Check.same("no fog", 0, x.account(7));
    }

    private static void fogOutOfRangeAheadOfReason3() {
        TrollBridges x = Scenes.bridgesAndTrolls();
        Check.badNumber("too many, without fog", () -> x.fog(0, 49));
        x.pass(1);
        Check.badNumber("back to the hour 0, without fog", () -> x.fog(0, -1));
        x.fog(0, 48);
        Check.badNumber("too many, in fog", () -> x.fog(0, 49));
        Check.badNumber("too few, in fog", () -> x.fog(0, -1));
        Check.noElement("no reason is kept", () -> x.refusal(false, false));
    }

    private static void fogThatLiftsThenAlready() {
        TrollBridges x = Scenes.bridgesAndTrolls();
        x.fog(0, 48);
        Check.refused(x, "for as many hours, the most", 3, 48, () -> x.fog(0, 48));
        x.pass(47);
        Check.refused(x, "at that hour, in other hours", 3, 1, () -> x.fog(0, 1));
        x.fog(9, 48);
        Check.refused(x, "of the last bridge", 3, 48, () -> x.fog(9, 48));
    }

    private static void fogThatLiftsAtAnotherHour() {
        TrollBridges x = Scenes.bridgesAndTrolls();
        x.fog(0, 5);
        Check.same("one hour sooner", 4, x.fog(0, 4));
        Check.same("one hour later", 5, x.fog(0, 5));
        Check.same("as another bridge", 5, x.fog(1, 5));
        x.pass(1);
        Check.same("as many hours, at a later hour", 6, x.fog(0, 5));
        x.pass(5);
        Check.same("after it lifted", 11, x.fog(0, 5));
    }

    private static void fogOfNoHoursWithoutFog() {
        TrollBridges x = Scenes.bridgesAndTrolls();
        Check.refused(x, "at the hour 0", 3, 0, () -> x.fog(0, 0));
        x.pass(3);
        Check.refused(x, "where there never was fog", 3, 0, () -> x.fog(9, 0));
        x.fog(0, 2);
        x.pass(2);
        Check.refused(x, "at the hour at which it lifted", 3, 0, () -> x.fog(0, 0));
        x.pass(1);
        Check.refused(x, "an hour after that", 3, 0, () -> x.fog(0, 0));
        x.fog(0, 1);
        x.fog(0, 0);
        Check.refused(x, "when it was made to lift", 3, 0, () -> x.fog(0, 0));
    }

    private static void fogOfNoHoursInFog() {
        TrollBridges x = Scenes.bridgesAndTrolls();
        x.fog(0, 1);
        Check.same("in its last hour", 0, x.fog(0, 0));
        Check.same("it is lifted", 0, x.bridgeOf(0, 5));
        x.pass(4);
        x.fog(0, 48);
        Check.same("in its first hour", 4, x.fog(0, 0));
        Check.same("it is lifted again", 0, x.bridgeOf(0, 5));
    }

    private static void fogThatFailsChangesNothing() {
        Check.unchanged("fog", Scenes::disputed, List.of(x -> x.fog(3, 1), x -> x.fog(0, -1), x -> x.fog(0, 49),
                x -> x.fog(0, 0), x -> x.fog(2, 3)));
    }

    // ---- promise 9

    private static void price(Boundaries document) {
        document.test(9, "Returns the toll before.", BoundaryMovesTest::priceReturnsTheTollBefore);
        document.test(9, NO_BRIDGE, BoundaryMovesTest::priceNoBridge);
        document.test(9, OUT_OF_RANGE, BoundaryMovesTest::priceOutOfRange);
        document.test(9, OUT_OF_RANGE, BoundaryMovesTest::priceInRange);
        document.test(9, OUT_OF_RANGE, BoundaryMovesTest::priceOutOfRangeAheadOfReasons);
        document.test(9, "for the reason 3, with the toll", BoundaryMovesTest::priceAsItIs);
        document.test(9, "or 10", BoundaryMovesTest::priceOfADisputedBridge);
        document.test(9, REFUSED, BoundaryMovesTest::priceReason3AheadOf10);
        document.test(9, REFUSED, BoundaryMovesTest::priceThatFailsChangesNothing);
    }

    private static void priceReturnsTheTollBefore() {
        TrollBridges x = new TrollBridges();
        x.bridge(0, 1, 1, 9);
        x.bridge(0, 1, 1, 4);
        Check.same("as it came", 9, x.price(0, 0));
        Check.same("0, though none is due", 0, x.price(0, 7));
        Check.same("the latest", 7, x.price(0, 9));
        Check.same("of the other bridge", 4, x.price(1, 5));
    }

    private static void priceNoBridge() {
        TrollBridges x = new TrollBridges();
        Check.noSuch("there is none at all", () -> x.price(0, 1));
        x.bridge(0, 1, 1, 1);
        x.bridge(0, 1, 1, 1);
        for (int bridge : Check.outside(0, 1)) {
            Check.noSuch("bridge " + bridge, () -> x.price(bridge, 2));
        }
        Check.noSuch("ahead of the toll", () -> x.price(2, 10));
        Check.same("no toll is another", 2, x.sum(true));
        Check.same("the last bridge there", 1, x.price(1, 2));
    }

    private static void priceOutOfRange() {
        TrollBridges x = new TrollBridges();
        x.bridge(0, 1, 1, 1);
        for (int toll : Check.outside(0, 9)) {
            Check.badNumber("toll " + toll, () -> x.price(0, toll));
        }
        Check.same("the toll stays", 1, x.bridgeOf(0, 3));
    }

    private static void priceInRange() {
        TrollBridges x = new TrollBridges();
        x.bridge(0, 1, 1, 1);
        for (int toll : new int[] {0, 1, 2, 8, 9}) {
            x.price(0, toll);
            Check.same("toll", toll, x.bridgeOf(0, 3));
        }
    }

    private static void priceOutOfRangeAheadOfReasons() {
        TrollBridges x = Scenes.disputed();
        Check.badNumber("-1, disputed", () -> x.price(0, -1));
        Check.badNumber("10, disputed", () -> x.price(0, 10));
        Check.noElement("no reason is kept", () -> x.refusal(false, false));
    }

    private static void priceAsItIs() {
        TrollBridges x = new TrollBridges();
        x.bridge(0, 1, 1, 0);
        x.bridge(0, 1, 1, 9);
        Check.refused(x, "0", 3, 0, () -> x.price(0, 0));
        Check.refused(x, "9", 3, 9, () -> x.price(1, 9));
        x.price(0, 9);
        Check.refused(x, "9 by now", 3, 9, () -> x.price(0, 9));
        Check.same("0 no more", 9, x.price(0, 0));
    }

    private static void priceOfADisputedBridge() {
        TrollBridges x = Scenes.bridgesAndTrolls();
        x.goat(0, 9);
        x.goat(0, 9);
        x.post(0, 0);
        x.post(1, 9);
        x.dispute(0, 0);
        Check.refused(x, "disputed by goat 0", 10, 0, () -> x.price(0, 2));
        x.dispute(1, 9);
        Check.refused(x, "disputed by goat 1", 10, 1, () -> x.price(9, 0));
        Check.same("another bridge is not", 1, x.price(1, 2));
        x.settle(0, false);
        Check.same("no more, when it is settled", 1, x.price(0, 2));
    }

    private static void priceReason3AheadOf10() {
        TrollBridges x = Scenes.disputed();
        Check.refused(x, "as it is, disputed", 3, 5, () -> x.price(0, 5));
        Check.refused(x, "otherwise, disputed", 10, 1, () -> x.price(0, 4));
    }

    private static void priceThatFailsChangesNothing() {
        Check.unchanged("price", Scenes::disputed, List.of(x -> x.price(3, 1), x -> x.price(1, 10),
                x -> x.price(1, 6), x -> x.price(0, 1)));
    }

    // ---- promise 10

    private static void cross(Boundaries document) {
        document.test(10, "Returns how many hours it walks.", BoundaryMovesTest::crossForTheFewestAndMostHours);
        document.test(10, "no such goat or bridge", BoundaryMovesTest::crossNoGoat);
        document.test(10, "no such goat or bridge", BoundaryMovesTest::crossNoBridge);
        document.test(10, "no such goat or bridge", BoundaryMovesTest::crossNoneAheadOfReasons);
        document.test(10, "for the reason 6", BoundaryMovesTest::crossOnStrike);
        document.test(10, "6, 7", BoundaryMovesTest::crossFromElsewhere);
        document.test(10, "7 or 8", BoundaryMovesTest::crossWithTooFewCoins);
        document.test(10, "7 or 8", BoundaryMovesTest::crossWithoutCoinsWhereNoneAreDue);
        document.test(10, REFUSED, BoundaryMovesTest::crossReason6AheadOf7And8);
        document.test(10, REFUSED, BoundaryMovesTest::crossReason7AheadOf8);
        document.test(10, REFUSED, BoundaryMovesTest::crossThatFailsChangesNothing);
    }

    private static void crossForTheFewestAndMostHours() {
        TrollBridges x = new TrollBridges();
        x.bridge(0, 1, 1, 0);
        x.bridge(0, 1, 9, 0);
        x.troll();
        x.goat(0, 0);
        Check.same("the fewest", 1, x.cross(0, 0));
        x.post(0, 1);
        x.riddle(0, 9, 48);
        x.fog(1, 48);
        Check.same("the most", 27, x.cross(0, 1));
        x.pass(47);
        Check.same("in the last hour of both", 27, x.cross(0, 1));
        x.pass(1);
        Check.same("when both ended", 9, x.cross(0, 1));
        Check.same("all of them", 64, x.goatOf(0, 3));
    }

    private static void crossNoGoat() {
        TrollBridges x = new TrollBridges();
        x.bridge(0, 1, 1, 1);
        Check.noSuch("there is none at all", () -> x.cross(0, 0));
        x.goat(0, 9);
        x.goat(0, 9);
        for (int goat : Check.outside(0, 1)) {
            Check.noSuch("goat " + goat, () -> x.cross(goat, 0));
        }
        Check.same("none crossed", 0, x.account(12));
        Check.same("the last goat there", 1, x.cross(1, 0));
    }

    private static void crossNoBridge() {
        TrollBridges x = new TrollBridges();
        x.goat(0, 9);
        Check.noSuch("there is none at all", () -> x.cross(0, 0));
        x.bridge(0, 1, 1, 1);
        x.bridge(0, 1, 1, 1);
        for (int bridge : Check.outside(0, 1)) {
            Check.noSuch("bridge " + bridge, () -> x.cross(0, bridge));
        }
        Check.same("none crossed", 0, x.account(12));
        Check.same("the last bridge there", 1, x.cross(0, 1));
    }

    private static void crossNoneAheadOfReasons() {
        TrollBridges x = Scenes.disputed();
        Check.noSuch("no bridge, of a goat on strike", () -> x.cross(2, 3));
        Check.noSuch("no goat", () -> x.cross(3, 0));
        Check.noElement("no reason is kept", () -> x.refusal(false, false));
    }

    private static void crossOnStrike() {
        TrollBridges x = Scenes.full();
        x.strike(0, true);
        Check.refused(x, "goat 0", 6, 0, () -> x.cross(0, 0));
        x.strike(4, true);
        Check.refused(x, "goat 4", 6, 4, () -> x.cross(4, 4));
        x.strike(1, true);
        Check.refused(x, "in a general strike, too", 6, 1, () -> x.cross(1, 1));
        Check.same("a goat that works", 1, x.cross(2, 2));
        x.strike(0, false);
        Check.same("no more, when it works again", 1, x.cross(0, 0));
    }

    private static void crossFromElsewhere() {
        TrollBridges x = new TrollBridges();
        x.bridge(1, 2, 1, 1);
        for (int land = 0; land < 5; land++) {
            x.goat(land, 9);
        }
        Check.refused(x, "from land 0", 7, 0, () -> x.cross(0, 0));
        Check.refused(x, "from land 3", 7, 3, () -> x.cross(3, 0));
        Check.same("from the one end", 1, x.cross(1, 0));
        Check.same("from the other end", 1, x.cross(2, 0));
        Check.same("to the other end", 2, x.goatOf(1, 0));
        Check.same("to the one end", 1, x.goatOf(2, 0));
        x.bridge(2, 5, 1, 1);
        x.cross(1, 1);
        Check.refused(x, "from land 5, where it has come to", 7, 5, () -> x.cross(1, 0));
    }

    private static void crossWithTooFewCoins() {
        TrollBridges x = new TrollBridges();
        x.bridge(0, 1, 1, 9);
        x.troll();
        x.post(0, 0);
        x.goat(0, 0);
        x.goat(0, 8);
        x.goat(0, 9);
        x.goat(0, 10);
        Check.refused(x, "all are lacking", 8, 9, () -> x.cross(0, 0));
        Check.refused(x, "one is lacking", 8, 1, () -> x.cross(1, 0));
        Check.same("as many as are due", 1, x.cross(2, 0));
        Check.same("none is left", 0, x.goatOf(2, 1));
        Check.same("one more than are due", 1, x.cross(3, 0));
        Check.same("one is left", 1, x.goatOf(3, 1));
        Check.refused(x, "on the way back", 8, 8, () -> x.cross(3, 0));
        x.dispute(3, 0);
        Check.refused(x, "into the chest", 8, 9, () -> x.cross(2, 0));
        Check.same("of two goats", 18, x.trollOf(0, 1));
    }

    private static void crossWithoutCoinsWhereNoneAreDue() {
        TrollBridges x = new TrollBridges();
        x.bridge(0, 1, 1, 9);
        x.bridge(0, 1, 1, 0);
        x.troll();
        x.troll();
        x.goat(0, 0);
        x.goat(0, 0);
        x.goat(0, 0);
        Check.same("no troll counts it", 1, x.cross(0, 0));
        x.post(0, 0);
        x.post(1, 1);
        Check.same("its toll is 0", 1, x.cross(0, 1));
        x.strike(1, true);
        Check.refused(x, "one of three is on strike", 8, 9, () -> x.cross(0, 0));
        x.strike(2, true);
        Check.same("a general strike", 1, x.cross(0, 0));
        x.strike(2, false);
        Check.refused(x, "one of three again", 8, 9, () -> x.cross(0, 0));
        x.dispute(1, 0);
        Check.refused(x, "disputed", 8, 9, () -> x.cross(0, 0));
        x.strike(2, true);
        Check.same("disputed, in a general strike", 1, x.cross(0, 0));
        Check.same("nothing is in the chest", 0, x.settle(0, true));
    }

    private static void crossReason6AheadOf7And8() {
        TrollBridges x = Scenes.disputed();
        Check.refused(x, "elsewhere", 6, 2, () -> x.cross(2, 0));
        x.strike(1, true);
        x.goat(0, 0);
        x.goat(0, 0);
        Check.refused(x, "with too few coins", 6, 1, () -> x.cross(1, 0));
    }

    private static void crossReason7AheadOf8() {
        TrollBridges x = Scenes.disputed();
        Check.refused(x, "elsewhere, with too few coins", 7, 0, () -> x.cross(1, 1));
        Check.refused(x, "there, with too few coins", 8, 2, () -> x.cross(1, 0));
    }

    private static void crossThatFailsChangesNothing() {
        Check.unchanged("cross", Scenes::disputed, List.of(x -> x.cross(3, 0), x -> x.cross(0, 3),
                x -> x.cross(2, 0), x -> x.cross(0, 2), x -> x.cross(1, 0)));
    }

    // ---- promise 11

    private static void dispute(Boundaries document) {
        document.test(11, "Returns how many disputes there are then.", BoundaryMovesTest::disputeReturnsHowMany);
        document.test(11, "no such goat or bridge", BoundaryMovesTest::disputeNoGoat);
        document.test(11, "no such goat or bridge", BoundaryMovesTest::disputeNoBridge);
        document.test(11, "no such goat or bridge", BoundaryMovesTest::disputeNoneAheadOfReasons);
        document.test(11, "for the reason 9", BoundaryMovesTest::disputeWhereNoTrollIs);
        document.test(11, "or 10", BoundaryMovesTest::disputeOfADisputedBridge);
        document.test(11, REFUSED, BoundaryMovesTest::disputeThatFailsChangesNothing);
    }

    private static void disputeReturnsHowMany() {
        TrollBridges x = Scenes.full();
        for (int troll = 0; troll < 6; troll++) {
            x.post(troll, 9 - troll);
        }
        for (int troll = 0; troll < 6; troll++) {
            Check.same("disputes", troll + 1, x.dispute(0, 9 - troll));
        }
        x.settle(9, true);
        Check.same("one was settled", 6, x.dispute(4, 9));
    }

    private static void disputeNoGoat() {
        TrollBridges x = new TrollBridges();
        x.bridge(0, 1, 1, 1);
        x.troll();
        x.post(0, 0);
        Check.noSuch("there is none at all", () -> x.dispute(0, 0));
        x.goat(0, 9);
        x.goat(0, 9);
        for (int goat : Check.outside(0, 1)) {
            Check.noSuch("goat " + goat, () -> x.dispute(goat, 0));
        }
        Check.same("no dispute", 0, x.account(5));
        Check.same("the last goat there", 1, x.dispute(1, 0));
    }

    private static void disputeNoBridge() {
        TrollBridges x = new TrollBridges();
        x.goat(0, 9);
        x.troll();
        Check.noSuch("there is none at all", () -> x.dispute(0, 0));
        x.bridge(0, 1, 1, 1);
        x.bridge(0, 1, 1, 1);
        x.post(0, 1);
        for (int bridge : Check.outside(0, 1)) {
            Check.noSuch("bridge " + bridge, () -> x.dispute(0, bridge));
        }
        Check.same("no dispute", 0, x.account(5));
        Check.same("the last bridge there", 1, x.dispute(0, 1));
    }

    private static void disputeNoneAheadOfReasons() {
        TrollBridges x = Scenes.disputed();
        Check.noSuch("no goat, where no troll is", () -> x.dispute(3, 2));
        Check.noSuch("no goat, of a disputed bridge", () -> x.dispute(-1, 0));
        Check.noSuch("no bridge", () -> x.dispute(0, 3));
        Check.noElement("no reason is kept", () -> x.refusal(false, false));
    }

    private static void disputeWhereNoTrollIs() {
        TrollBridges x = Scenes.full();
        Check.refused(x, "bridge 0", 9, 0, () -> x.dispute(4, 0));
        Check.refused(x, "bridge 9", 9, 9, () -> x.dispute(0, 9));
        x.post(0, 0);
        x.leave(0);
        Check.refused(x, "the troll has left", 9, 0, () -> x.dispute(0, 0));
        x.post(0, 9);
        Check.refused(x, "the troll is elsewhere", 9, 0, () -> x.dispute(0, 0));
        Check.same("where it is", 1, x.dispute(0, 9));
    }

    private static void disputeOfADisputedBridge() {
        TrollBridges x = Scenes.full();
        x.post(0, 0);
        x.post(1, 1);
        x.dispute(0, 0);
        Check.refused(x, "by goat 0, another one", 10, 0, () -> x.dispute(4, 0));
        Check.refused(x, "by goat 0, the same", 10, 0, () -> x.dispute(0, 0));
        x.dispute(4, 1);
        Check.refused(x, "by goat 4", 10, 4, () -> x.dispute(0, 1));
        Check.same("two disputes", 2, x.account(5));
        x.settle(0, false);
        Check.same("no more, when it is settled", 2, x.dispute(4, 0));
    }

    private static void disputeThatFailsChangesNothing() {
        Check.unchanged("dispute", Scenes::disputed, List.of(x -> x.dispute(3, 1), x -> x.dispute(0, 3),
                x -> x.dispute(0, 2), x -> x.dispute(0, 0), x -> x.dispute(1, 0)));
    }

    // ---- promise 12

    private static void settle(Boundaries document) {
        document.test(12, "Returns how many coins were in the chest.", BoundaryMovesTest::settleReturnsTheChest);
        document.test(12, "Returns how many coins were in the chest.", BoundaryMovesTest::settleReturnsOneChestAlone);
        document.test(12, "Returns how many coins were in the chest.", BoundaryMovesTest::settleTouchesNothingElse);
        document.test(12, NO_BRIDGE, BoundaryMovesTest::settleNoBridge);
        document.test(12, REFUSED, BoundaryMovesTest::settleWithoutADispute);
        document.test(12, REFUSED, BoundaryMovesTest::settleThatFailsChangesNothing);
    }

    private static void settleReturnsTheChest() {
        TrollBridges x = Scenes.tollBridge();
        x.dispute(0, 0);
        Check.same("an empty one, for the troll", 0, x.settle(0, true));
        x.dispute(0, 0);
        Check.same("an empty one, for the goats", 0, x.settle(0, false));
        x.cross(0, 0);
        x.dispute(0, 0);
        x.cross(0, 0);
        x.cross(0, 0);
        Check.same("not what was paid before", 10, x.settle(0, false));
        x.dispute(0, 0);
        Check.same("empty again", 0, x.settle(0, true));
        Check.same("paid before", 5, x.trollOf(0, 1));
        Check.same("given back", 15, x.goatOf(0, 1));
    }

    private static void settleReturnsOneChestAlone() {
        TrollBridges x = Scenes.tollBridge();
        x.bridge(0, 1, 1, 2);
        x.troll();
        x.post(1, 1);
        x.dispute(0, 0);
        x.dispute(0, 1);
        x.cross(0, 0);
        x.cross(0, 1);
        Check.same("the one", 5, x.settle(0, true));
        Check.same("the other", 2, x.settle(1, true));
        Check.same("the one troll's", 5, x.trollOf(0, 1));
        Check.same("the other troll's", 2, x.trollOf(1, 1));
    }

    private static void settleTouchesNothingElse() {
        String before = Check.dump(Scenes.worked());
        for (int bridge = 0; bridge < 6; bridge++) {
            TrollBridges x = Scenes.worked();
            x.dispute(bridge % 5, bridge);
            Check.same("for the goats", 0, x.settle(bridge, false));
            x.dispute(4 - bridge % 5, bridge);
            Check.same("for the troll", 0, x.settle(bridge, true));
            Check.same("as before", before, Check.dump(x));
        }
    }

    private static void settleNoBridge() {
        TrollBridges x = new TrollBridges();
        Check.noSuch("there is none at all", () -> x.settle(0, true));
        x.bridge(0, 1, 1, 1);
        x.bridge(0, 1, 1, 1);
        x.troll();
        x.post(0, 1);
        x.goat(0, 9);
        x.dispute(0, 1);
        for (int bridge : Check.outside(0, 1)) {
            Check.noSuch("bridge " + bridge + ", for the troll", () -> x.settle(bridge, true));
            Check.noSuch("bridge " + bridge + ", for the goat", () -> x.settle(bridge, false));
        }
        Check.noElement("no reason is kept", () -> x.refusal(false, false));
        Check.same("the last bridge there", 0, x.settle(1, true));
    }

    private static void settleWithoutADispute() {
        TrollBridges x = Scenes.full();
        Check.refused(x, "bridge 0", 11, 0, () -> x.settle(0, true));
        Check.refused(x, "bridge 9", 11, 9, () -> x.settle(9, false));
        x.post(0, 0);
        x.dispute(0, 0);
        Check.refused(x, "another bridge", 11, 1, () -> x.settle(1, true));
        x.settle(0, true);
        Check.refused(x, "a second time", 11, 0, () -> x.settle(0, true));
        x.dispute(0, 0);
        x.settle(0, false);
        Check.refused(x, "a second time, for the goats", 11, 0, () -> x.settle(0, false));
    }

    private static void settleThatFailsChangesNothing() {
        Check.unchanged("settle", Scenes::disputed, List.of(x -> x.settle(3, true), x -> x.settle(-1, false),
                x -> x.settle(1, true), x -> x.settle(2, false)));
    }

    // ---- promise 13

    private static void strike(Boundaries document) {
        document.test(13, "Returns how many goats are on strike then.", BoundaryMovesTest::strikeReturnsHowMany);
        document.test(13, NO_GOAT, BoundaryMovesTest::strikeNoGoat);
        document.test(13, REFUSED, BoundaryMovesTest::strikeOfAGoatOnStrike);
        document.test(13, REFUSED, BoundaryMovesTest::workOfAGoatThatWorks);
        document.test(13, REFUSED, BoundaryMovesTest::strikeThatFailsChangesNothing);
    }

    private static void strikeReturnsHowMany() {
        TrollBridges x = Scenes.full();
        for (int goat = 0; goat < 5; goat++) {
            Check.same("one more", goat + 1, x.strike(goat, true));
        }
        for (int goat = 0; goat < 5; goat++) {
            Check.same("one less", 4 - goat, x.strike(goat, false));
        }
    }

    private static void strikeNoGoat() {
        TrollBridges x = new TrollBridges();
        Check.noSuch("there is none at all", () -> x.strike(0, true));
        x.goat(0, 9);
        x.goat(0, 9);
        for (int goat : Check.outside(0, 1)) {
            Check.noSuch("goat " + goat, () -> x.strike(goat, true));
            Check.noSuch("goat " + goat + " works, ahead of reason 3", () -> x.strike(goat, false));
        }
        Check.noElement("no reason is kept", () -> x.refusal(false, false));
        Check.same("the last goat there", 1, x.strike(1, true));
    }

    private static void strikeOfAGoatOnStrike() {
        TrollBridges x = Scenes.full();
        x.strike(0, true);
        Check.refused(x, "goat 0", 3, 1, () -> x.strike(0, true));
        x.strike(4, true);
        Check.refused(x, "goat 4", 3, 1, () -> x.strike(4, true));
        Check.same("another goat", 3, x.strike(2, true));
    }

    private static void workOfAGoatThatWorks() {
        TrollBridges x = Scenes.full();
        Check.refused(x, "goat 0, at first", 3, 0, () -> x.strike(0, false));
        Check.refused(x, "goat 4, at first", 3, 0, () -> x.strike(4, false));
        x.strike(4, true);
        Check.refused(x, "another goat", 3, 0, () -> x.strike(3, false));
        x.strike(4, false);
        Check.refused(x, "a second time", 3, 0, () -> x.strike(4, false));
    }

    private static void strikeThatFailsChangesNothing() {
        Check.unchanged("strike", Scenes::disputed, List.of(x -> x.strike(3, true), x -> x.strike(-1, false),
                x -> x.strike(2, true), x -> x.strike(0, false)));
    }

    // ---- promise 14

    private static void pass(Boundaries document) {
        document.test(14, "`hours`: how many, 1 to 48", BoundaryMovesTest::passInRange);
        document.test(14, "Returns how many riddles expire by that.", BoundaryMovesTest::passReturnsHowManyExpire);
        document.test(14, "Returns how many riddles expire by that.", BoundaryMovesTest::passTellsOfRiddlesOnce);
        document.test(14, "Returns how many riddles expire by that.", BoundaryMovesTest::passTellsOfRiddlesAlone);
        document.test(14, OUT_OF_RANGE, BoundaryMovesTest::passOutOfRange);
        document.test(14, OUT_OF_RANGE, BoundaryMovesTest::passThatFailsChangesNothing);
    }

    private static void passInRange() {
        TrollBridges x = new TrollBridges();
        int hour = 0;
        for (int hours : new int[] {1, 2, 47, 48}) {
            x.pass(hours);
            hour += hours;
            Check.same("the hour", hour, x.account(3));
        }
    }

    private static void passReturnsHowManyExpire() {
        TrollBridges x = Scenes.bridgesAndTrolls();
        Check.same("there is none", 0, x.pass(48));
        x.riddle(0, 9, 48);
        x.riddle(1, 9, 47);
        Check.same("an hour less than the shorter holds", 0, x.pass(46));
        Check.same("just the shorter", 1, x.pass(1));
        Check.same("just the longer", 1, x.pass(1));
        for (int troll = 0; troll < 6; troll++) {
            x.riddle(troll, 1, troll + 1);
        }
        Check.same("all of them", 6, x.pass(48));
    }

    private static void passTellsOfRiddlesOnce() {
        TrollBridges x = Scenes.bridgesAndTrolls();
        x.riddle(0, 1, 1);
        x.fog(0, 1);
        Check.same("a riddle, and not the fog", 1, x.pass(1));
        Check.same("it has expired", 0, x.pass(1));
        x.riddle(0, 1, 2);
        x.pass(2);
        x.undo();
        Check.same("again, when that was undone", 1, x.pass(2));
    }

    private static void passTellsOfRiddlesAlone() {
        TrollBridges x = Scenes.worked();
        x.fog(0, 48);
        Check.same("no riddle, but fog and goats that walked", 0, x.pass(48));
        x.riddle(5, 1, 1);
        Check.same("the last troll's", 1, x.pass(48));
    }

    private static void passOutOfRange() {
        TrollBridges x = new TrollBridges();
        for (int hours : Check.outside(1, 48)) {
            Check.badNumber(hours + " hours", () -> x.pass(hours));
        }
        Check.same("the hour stays", 0, x.account(3));
    }

    private static void passThatFailsChangesNothing() {
        Check.unchanged("pass", Scenes::disputed, List.of(x -> x.pass(0), x -> x.pass(49), x -> x.pass(-1)));
    }
}
