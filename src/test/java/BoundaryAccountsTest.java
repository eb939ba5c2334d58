import java.io.IOException;
import java.util.List;
import java.util.function.Consumer;

/** What the sentences of the promises 40 to 45 say of boundary cases: accounts, means, undo, and the snapshot. */
public final class BoundaryAccountsTest {
    private BoundaryAccountsTest() {
    }

    public static void main(String[] args) throws IOException {
        Boundaries document = new Boundaries(40, 45);
        account(document);
        meanToll(document);
        countedShare(document);
        undo(document);
        save(document);
        restore(document);
        document.finish("BoundaryAccountsTest");
    }

    // ---- promise 40

    private static void account(Boundaries document) {
        document.test(40, "0 for the bridges, 1 for the trolls, 2 for the goats", BoundaryAccountsTest::ofWhatCame);
        document.test(40, "3 for the hour", BoundaryAccountsTest::ofTheHour);
        document.test(40, "4 for the goats on strike", BoundaryAccountsTest::ofGoatsOnStrike);
        document.test(40, "5 for the disputes", BoundaryAccountsTest::ofDisputes);
        document.test(40, "6 for the riddles that hold", BoundaryAccountsTest::ofRiddles);
        document.test(40, "7 for the bridges in fog", BoundaryAccountsTest::ofFog);
        document.test(40, "8 for the coins that goats brought, 9 for those of goats, 10 for those of trolls, "
                + "11 for those in chests", BoundaryAccountsTest::ofCoins);
        document.test(40, "10 for those of trolls, 11 for those in chests", BoundaryAccountsTest::ofCoinsOfTheLast);
        document.test(40, "0 for the bridges, 1 for the trolls, 2 for the goats, 3 for the hour",
                BoundaryAccountsTest::ofAllThatCanCome);
        document.test(40, "12 for the crossings so far", BoundaryAccountsTest::ofCrossings);
        document.test(40, "13 for the characters in the buffer", BoundaryAccountsTest::ofTheBuffer);
        document.test(40, "14 for the changes that can be undone", BoundaryAccountsTest::ofChanges);
        document.test(40, "if what is not from 0 to 14", BoundaryAccountsTest::ofNoSuchThing);
    }

    private static void ofWhatCame() {
        TrollBridges x = new TrollBridges();
        for (int count = 1; count <= 10; count++) {
            x.bridge(0, 1, 1, 1);
            Check.same("bridges", count, x.account(0));
        }
        for (int count = 1; count <= 6; count++) {
            x.troll();
            Check.same("trolls", count, x.account(1));
        }
        for (int count = 1; count <= 5; count++) {
            x.goat(0, 1);
            Check.same("goats", count, x.account(2));
        }
        Check.refused(x, "a seventh troll", 1, 6, () -> x.troll());
        Check.same("all of them", 21, x.account(0) + x.account(1) + x.account(2));
    }

    private static void ofTheHour() {
        TrollBridges x = new TrollBridges();
        Check.same("at first", 0, x.account(3));
        x.pass(1);
        Check.same("the next one", 1, x.account(3));
        for (int count = 0; count < 500; count++) {
            x.pass(48);
        }
        Check.same("after all that can pass", 24001, x.account(3));
    }

    private static void ofGoatsOnStrike() {
        TrollBridges x = Scenes.full();
        Check.same("at first", 0, x.account(4));
        for (int goat = 0; goat < 5; goat++) {
            x.strike(goat, true);
            Check.same("one more", goat + 1, x.account(4));
        }
        x.strike(0, false);
        Check.same("one less", 4, x.account(4));
    }

    private static void ofDisputes() {
        TrollBridges x = Scenes.full();
        Check.same("at first", 0, x.account(5));
        for (int troll = 0; troll < 6; troll++) {
            x.post(troll, 9 - troll);
            x.dispute(0, 9 - troll);
            Check.same("one more", troll + 1, x.account(5));
        }
        x.settle(9, true);
        x.settle(4, false);
        Check.same("two less", 4, x.account(5));
    }

    private static void ofRiddles() {
        TrollBridges x = Scenes.bridgesAndTrolls();
        Check.same("at first", 0, x.account(6));
        for (int troll = 0; troll < 6; troll++) {
            x.riddle(troll, 1, 43 + troll);
            Check.same("one more", troll + 1, x.account(6));
        }
        x.pass(42);
        Check.same("in the last hour of one", 6, x.account(6));
        x.pass(1);
        Check.same("one has expired", 5, x.account(6));
        x.pass(5);
        Check.same("all have expired", 0, x.account(6));
    }

    private static void ofFog() {
        TrollBridges x = Scenes.bridgesAndTrolls();
        Check.same("at first", 0, x.account(7));
        for (int bridge = 0; bridge < 10; bridge++) {
            x.fog(bridge, 39 + bridge);
            Check.same("one more", bridge + 1, x.account(7));
        }
        x.pass(38);
        Check.same("in the last hour of one", 10, x.account(7));
        x.pass(1);
        Check.same("one has lifted", 9, x.account(7));
        x.fog(9, 0);
        Check.same("one was made to lift", 8, x.account(7));
        x.pass(9);
        Check.same("all have lifted", 0, x.account(7));
    }

    private static void ofCoins() {
        TrollBridges x = new TrollBridges();
        x.bridge(0, 1, 1, 9);
        x.troll();
        x.post(0, 0);
        for (int goat = 0; goat < 5; goat++) {
            x.goat(0, 99);
        }
        checkCoins("the most that goats can bring", x, 495, 495, 0, 0);
        x.cross(0, 0);
        checkCoins("nine for the troll", x, 495, 486, 9, 0);
        x.dispute(0, 0);
        x.cross(4, 0);
        x.cross(0, 0);
        checkCoins("eighteen in the chest", x, 495, 468, 9, 18);
        x.settle(0, false);
        checkCoins("given back", x, 495, 486, 9, 0);
        x.dispute(0, 0);
        x.cross(3, 0);
        x.settle(0, true);
        checkCoins("given to the troll", x, 495, 477, 18, 0);
    }

    private static void ofCoinsOfTheLast() {
        TrollBridges x = new TrollBridges();
        for (int bridge = 0; bridge < 10; bridge++) {
            x.bridge(0, 1, 1, 3);
        }
        for (int troll = 0; troll < 6; troll++) {
            x.troll();
        }
        x.goat(0, 10);
        x.post(5, 9);
        x.cross(0, 9);
        checkCoins("the last troll's", x, 10, 7, 3, 0);
        x.dispute(0, 9);
        x.cross(0, 9);
        checkCoins("the last chest's", x, 10, 4, 3, 3);
        Check.yes("well", x.isWell());
    }

    private static void ofAllThatCanCome() {
        TrollBridges x = Scenes.worked();
        int[] want = {10, 6, 5, 1, 0, 0, 0, 0, 495, 475, 20, 0, 10, 0, 8};
        for (int what = 0; what < want.length; what++) {
            Check.same("account " + what, want[what], x.account(what));
        }
        Check.same("the mean", 2.0, x.meanToll());
        Check.same("the share", 0.6f, x.countedShare());
    }

    private static void checkCoins(String what, TrollBridges x, int... want) {
        for (int index = 0; index < want.length; index++) {
            Check.same(what + ", account " + (8 + index), want[index], x.account(8 + index));
        }
    }

    private static void ofCrossings() {
        TrollBridges x = new TrollBridges();
        x.bridge(0, 1, 9, 9);
        x.goat(0, 0);
        x.goat(1, 0);
        Check.same("at first", 0, x.account(12));
        for (int count = 0; count < 150; count++) {
            x.cross(0, 0);
            x.cross(1, 0);
        }
        Check.same("of both goats", 300, x.account(12));
        Check.noSuch("no such bridge", () -> x.cross(0, 1));
        Check.same("not one that fails", 300, x.account(12));
        x.undo();
        Check.same("not one that is undone", 299, x.account(12));
    }

    private static void ofTheBuffer() {
        TrollBridges x = new TrollBridges();
        Check.same("at first", 0, x.account(13));
        Check.type(x, "x".repeat(60));
        Check.same("full", 60, x.account(13));
        Check.badState("one too many", () -> x.type('x'));
        Check.same("still full", 60, x.account(13));
        Check.badNumber("malformed", () -> x.read());
        Check.same("empty", 0, x.account(13));
    }

    private static void ofChanges() {
        TrollBridges x = new TrollBridges();
        Check.same("at first", 0, x.account(14));
        for (int count = 1; count <= 20; count++) {
            x.pass(1);
            Check.same("changes", Math.min(count, 8), x.account(14));
        }
        x.undo();
        Check.same("one less", 7, x.account(14));
        x.save();
        Check.same("as many", 7, x.account(14));
        x.restore();
        Check.same("none", 0, x.account(14));
    }

    private static void ofNoSuchThing() {
        TrollBridges x = Scenes.full();
        for (int what : Check.outside(0, 14)) {
            Check.badNumber("what " + what, () -> x.account(what));
        }
        Check.same("the first one there", 10, x.account(0));
        Check.same("the last one there", 8, x.account(14));
    }

    // ---- promise 41

    private static void meanToll(Boundaries document) {
        document.test(41, "both converted to double", BoundaryAccountsTest::meanOfOneToTen);
        document.test(41, "the mean toll of the bridges, as they were told", BoundaryAccountsTest::meanOfTold);
        document.test(41, "if there are none", BoundaryAccountsTest::meanOfNone);
    }

    private static void meanOfOneToTen() {
        TrollBridges x = new TrollBridges();
        double sum = 0;
        for (int bridge = 0; bridge < 10; bridge++) {
            int toll = bridge == 0 ? 0 : 10 - bridge;
            x.bridge(0, 1, 1, toll);
            sum += toll;
            Check.same("of " + (bridge + 1), sum / (bridge + 1.0), x.meanToll());
        }
        TrollBridges third = new TrollBridges();
        Check.read(third, "bridge 0 1 1 1;bridge 0 1 1 0;bridge 0 1 1 0");
        Check.same("as exact as a double", 1.0 / 3.0, third.meanToll());
        Check.no("more exact than a float", third.meanToll() == (double) (1.0f / 3.0f));
    }

    private static void meanOfTold() {
        TrollBridges x = Scenes.tollBridge();
        x.bridge(0, 1, 1, 8);
        x.fog(1, 1);
        Check.same("in fog, and not counted", 6.5, x.meanToll());
        x.strike(0, true);
        Check.same("in a general strike", 6.5, x.meanToll());
        x.price(0, 0);
        Check.same("another toll", 4.0, x.meanToll());
        x.price(1, 0);
        Check.same("nothing", 0.0, x.meanToll());
    }

    private static void meanOfNone() {
        TrollBridges x = new TrollBridges();
        Check.arithmetic("at first", () -> (long) x.meanToll());
        x.troll();
        x.goat(0, 1);
        Check.arithmetic("trolls and goats alone", () -> (long) x.meanToll());
        x.bridge(0, 1, 1, 9);
        Check.same("of the first one", 9.0, x.meanToll());
        x.undo();
        Check.arithmetic("when that is undone", () -> (long) x.meanToll());
    }

    // ---- promise 42

    private static void countedShare(Boundaries document) {
        document.test(42, "the share of the bridges that are counted", BoundaryAccountsTest::shareFromNoneToAll);
        document.test(42, "both numbers converted to float", BoundaryAccountsTest::shareAsFloat);
        document.test(42, "if there are none", BoundaryAccountsTest::shareOfNone);
    }

    private static void shareFromNoneToAll() {
        TrollBridges x = Scenes.tollBridge();
        Check.same("all", 1.0, x.countedShare());
        x.leave(0);
        Check.same("none", 0.0, x.countedShare());
        TrollBridges ten = Scenes.bridgesAndTrolls();
        for (int troll = 0; troll < 6; troll++) {
            Check.same("of ten", troll / 10.0f, ten.countedShare());
            ten.post(troll, troll);
        }
        Check.same("six of ten", 6.0f / 10.0f, ten.countedShare());
    }

    private static void shareAsFloat() {
        TrollBridges x = Scenes.tollBridge();
        x.bridge(0, 1, 1, 1);
        x.bridge(0, 1, 1, 1);
        Check.same("one of three", 1.0f / 3.0f, x.countedShare());
        Check.no("as exact as a double", (double) x.countedShare() == 1.0 / 3.0);
    }

    private static void shareOfNone() {
        TrollBridges x = new TrollBridges();
        Check.arithmetic("at first", () -> (long) x.countedShare());
        x.troll();
        x.goat(0, 1);
        Check.arithmetic("trolls and goats alone", () -> (long) x.countedShare());
        x.bridge(0, 1, 1, 9);
        Check.same("of one", 0.0, x.countedShare());
        x.undo();
        Check.arithmetic("when that is undone", () -> (long) x.countedShare());
    }

    // ---- promise 43

    private static void undo(Boundaries document) {
        document.test(43, "Undoes the latest change that can be undone.", BoundaryAccountsTest::undoTheLatestFirst);
        document.test(43, "Undoes the latest change that can be undone.", BoundaryAccountsTest::undoAfterUndoing);
        document.test(43, "Returns how many can still be undone.", BoundaryAccountsTest::undoReturnsHowMany);
        document.test(43, "if there is none", BoundaryAccountsTest::undoNothing);
        document.test(43, "if there is none", BoundaryAccountsTest::undoBeyondEight);
        document.test(43, "if there is none", BoundaryAccountsTest::undoAfterARestore);
    }

    private static void undoTheLatestFirst() {
        TrollBridges x = Scenes.tollBridge();
        x.pass(1);
        x.price(0, 7);
        x.cross(0, 0);
        x.undo();
        Check.same("the crossing", 0, x.account(12));
        Check.same("its coins", 20, x.goatOf(0, 1) + x.trollOf(0, 1));
        Check.same("not the price", 7, x.bridgeOf(0, 3));
        x.undo();
        Check.same("the price", 5, x.bridgeOf(0, 3));
        Check.same("not the hour", 1, x.account(3));
        x.undo();
        Check.same("the hour", 0, x.account(3));
        x.undo();
        Check.same("the goat", 0, x.account(2));
        x.undo();
        Check.same("the post", -1, x.trollOf(0, 0));
        x.undo();
        Check.same("the troll", 0, x.account(1));
        x.undo();
        Check.same("the bridge", 0, x.account(0));
    }

    private static void undoAfterUndoing() {
        TrollBridges x = new TrollBridges();
        for (int round = 0; round < 30; round++) {
            x.pass(10);
            x.pass(1);
            x.pass(2);
            Check.same("the latest of the round", Math.min(round + 2, 7), x.undo());
            Check.same("the one before it", Math.min(round + 1, 6), x.undo());
            Check.same("the hour", 10 * round + 10, x.account(3));
        }
        for (int left = 5; left >= 0; left--) {
            Check.same("those before", left, x.undo());
            Check.same("the hour then", 10 * (24 + left), x.account(3));
        }
    }

    private static void undoReturnsHowMany() {
        TrollBridges x = new TrollBridges();
        x.pass(1);
        Check.same("of one", 0, x.undo());
        for (int count = 0; count < 8; count++) {
            x.pass(1);
        }
        Check.same("of eight", 7, x.undo());
        x.pass(1);
        x.pass(1);
        Check.same("of nine", 7, x.undo());
        Check.same("of seven", 6, x.undo());
    }

    private static void undoNothing() {
        TrollBridges x = new TrollBridges();
        Check.badState("at first", () -> x.undo());
        x.type('x');
        x.show(0);
        x.save();
        Check.noSuch("no change", () -> x.leave(0));
        Check.badNumber("no change", () -> x.read());
        Check.badState("after what is no change", () -> x.undo());
        x.pass(5);
        x.undo();
        Check.badState("after all is undone", () -> x.undo());
        Check.badState("after all is undone, again", () -> x.undo());
        Check.same("the hour", 0, x.account(3));
        x.pass(3);
        Check.same("the next change", 0, x.undo());
    }

    private static void undoBeyondEight() {
        TrollBridges x = new TrollBridges();
        for (int count = 0; count < 9; count++) {
            x.pass(1);
        }
        for (int left = 7; left >= 0; left--) {
            Check.same("left", left, x.undo());
        }
        Check.badState("the ninth", () -> x.undo());
        Check.same("the hour stays", 1, x.account(3));
        TrollBridges eight = new TrollBridges();
        for (int count = 0; count < 8; count++) {
            eight.pass(1);
        }
        for (int left = 7; left >= 0; left--) {
            eight.undo();
        }
        Check.same("all of eight", 0, eight.account(3));
    }

    private static void undoAfterARestore() {
        TrollBridges x = new TrollBridges();
        x.pass(1);
        x.save();
        x.restore();
        Check.badState("what was ahead of the snapshot", () -> x.undo());
        x.pass(2);
        Check.same("what came after it", 0, x.undo());
        Check.same("the hour of the snapshot", 1, x.account(3));
        Check.badState("no more", () -> x.undo());
    }

    // ---- promise 44

    private static void save(Boundaries document) {
        document.test(44, "of all that changes can change", BoundaryAccountsTest::saveNothing);
        document.test(44, "of all that changes can change", BoundaryAccountsTest::saveAll);
        document.test(44, "in place of an earlier one", BoundaryAccountsTest::saveInPlaceOfAnEarlierOne);
        document.test(44, "Returns the bridges.", BoundaryAccountsTest::saveReturnsTheBridges);
    }

    private static void saveNothing() {
        TrollBridges x = new TrollBridges();
        x.save();
        Check.read(x, "bridge 0 1 2 3;troll;goat 0 9;pass 1");
        x.restore();
        Check.same("nothing again", Check.dump(new TrollBridges()), Check.dump(x));
    }

    private static final List<Consumer<TrollBridges>> EACH_CHANGE = List.of(
            x -> x.bridge(3, 4, 5, 6), x -> x.troll(), x -> x.goat(3, 40), x -> x.post(2, 2), x -> x.leave(1),
            x -> x.riddle(1, 3, 3), x -> x.fog(1, 3), x -> x.fog(2, 0), x -> x.price(2, 3), x -> x.cross(0, 1),
            x -> x.dispute(0, 1), x -> x.settle(0, true), x -> x.settle(0, false), x -> x.strike(0, true),
            x -> x.strike(2, false), x -> x.pass(3), x -> Check.read(x, "troll;settle 0-;fog 2 0;work 2"));

    private static void saveAll() {
        String saved = Check.dump(Scenes.disputed());
        for (int change = 0; change < EACH_CHANGE.size(); change++) {
            TrollBridges x = Scenes.disputed();
            x.save();
            EACH_CHANGE.get(change).accept(x);
            x.restore();
            Check.same("before the change " + change, saved, Check.dump(x));
            TrollBridges after = Scenes.disputed();
            EACH_CHANGE.get(change).accept(after);
            String changed = Check.dump(after);
            Check.no("the change " + change + " changes nothing", saved.equals(changed));
            after.save();
            after.pass(9);
            after.restore();
            Check.same("after the change " + change, changed, Check.dump(after));
        }
    }

    private static void saveInPlaceOfAnEarlierOne() {
        TrollBridges x = new TrollBridges();
        x.pass(1);
        x.save();
        x.pass(2);
        x.save();
        x.pass(4);
        x.restore();
        Check.same("the later one", 3, x.account(3));
        x.pass(8);
        x.restore();
        Check.same("the later one again", 3, x.account(3));
        x.pass(16);
        x.save();
        x.restore();
        Check.same("one that was taken after a restore", 19, x.account(3));
    }

    private static void saveReturnsTheBridges() {
        TrollBridges x = new TrollBridges();
        Check.same("none", 0, x.save());
        for (int bridge = 1; bridge <= 10; bridge++) {
            x.bridge(0, 1, 1, 1);
            Check.same("bridges", bridge, x.save());
        }
        x.undo();
        Check.same("one was undone", 9, x.save());
        Check.same("nothing else is changed", 7, x.account(14));
    }

    // ---- promise 45

    private static void restore(Boundaries document) {
        document.test(45, "Restores the snapshot, which stays", BoundaryAccountsTest::restoreTwice);
        document.test(45, "then no change can be undone", BoundaryAccountsTest::restoreLeavesNothingToUndo);
        document.test(45, "Returns the bridges.", BoundaryAccountsTest::restoreReturnsTheBridges);
        document.test(45, "if there is no snapshot", BoundaryAccountsTest::restoreNothing);
    }

    private static void restoreTwice() {
        TrollBridges x = Scenes.disputed();
        x.save();
        Check.read(x, "settle 0+;leave 0;pass 9;goat 1 1");
        x.restore();
        Check.read(x, "settle 0-;work 2;fog 2 0;troll");
        x.restore();
        Check.same("as it was", Check.dump(Scenes.disputed()), Check.dump(x));
    }

    private static void restoreLeavesNothingToUndo() {
        TrollBridges x = Scenes.full();
        x.save();
        Check.same("eight changes", 8, x.account(14));
        x.restore();
        Check.same("none", 0, x.account(14));
        Check.badState("none can be undone", () -> x.undo());
        x.pass(1);
        Check.same("one after the next change", 1, x.account(14));
    }

    private static void restoreReturnsTheBridges() {
        TrollBridges x = new TrollBridges();
        x.save();
        x.bridge(0, 1, 1, 1);
        Check.same("none", 0, x.restore());
        for (int bridge = 0; bridge < 10; bridge++) {
            x.bridge(0, 1, 1, 1);
        }
        x.save();
        x.undo();
        Check.same("ten", 10, x.restore());
        Check.same("ten are there", 10, x.account(0));
    }

    private static void restoreNothing() {
        TrollBridges x = Scenes.disputed();
        Check.badState("nothing was saved", () -> x.restore());
        Check.same("the changes stay", 8, x.account(14));
        Check.same("all stays", Check.dump(Scenes.disputed()), Check.dump(x));
        x.save();
        Check.same("something was saved", 3, x.restore());
    }
}
