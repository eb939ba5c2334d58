import java.util.List;
import java.util.function.Consumer;

/** Promises 40 to 45: accounts, the mean and the share, undo, the snapshot. */
public final class AccountsUndoTest {
    private AccountsUndoTest() {
    }

    public static void main(String[] args) {
        promise40Account();
        promise40AccountOfAll();
        promise41MeanToll();
        promise42CountedShare();
        promise43UndoEachChange();
        promise43UndoTheLatestEight();
        promise43FailuresAreNoChanges();
        promise44Save();
        promise45Restore();
        Check.finish("AccountsUndoTest");
    }

    private static void promise40Account() {
        TrollBridges x = new TrollBridges();
        x.bridge(0, 1, 1, 3);
        x.bridge(1, 2, 1, 4);
        x.bridge(2, 3, 1, 5);
        x.troll();
        x.troll();
        x.troll();
        x.troll();
        x.goat(0, 20);
        x.goat(1, 30);
        x.post(0, 0);
        x.post(1, 1);
        x.dispute(1, 1);
        x.cross(0, 0);
        x.cross(1, 1);
        x.cross(0, 1);
        x.riddle(2, 4, 48);
        x.riddle(3, 4, 5);
        x.pass(4);
        x.fog(0, 1);
        x.fog(2, 48);
        x.strike(1, true);
        Check.type(x, "pas");
        long[] want = {3, 4, 2, 4, 1, 1, 2, 2, 50, 39, 3, 8, 3, 3, 8};
        for (int what = 0; what < want.length; what++) {
            Check.same("account " + what, want[what], x.account(what));
        }
        x.pass(1);
        Check.same("account: a riddle expired", 1, x.account(6));
        Check.same("account: a fog lifted", 1, x.account(7));
        Check.badNumber("account: what -1", () -> x.account(-1));
        Check.badNumber("account: what 15", () -> x.account(15));
    }

    private static void promise40AccountOfAll() {
        TrollBridges x = new TrollBridges();
        for (int bridge = 0; bridge < 10; bridge++) {
            x.bridge(bridge % 6, (bridge + 1) % 6, 1 + bridge % 9, bridge);
            x.fog(bridge, 48);
        }
        for (int troll = 0; troll < 6; troll++) {
            x.troll();
            x.post(troll, 9 - troll);
            x.riddle(troll, 9, 48);
        }
        for (int goat = 0; goat < 5; goat++) {
            x.goat((9 - goat) % 6, 99);
            x.dispute(goat, 9 - goat);
            x.cross(goat, 9 - goat);
        }
        x.strike(4, true);
        long[] want = {10, 6, 5, 0, 1, 5, 6, 10, 495, 460, 0, 35, 5, 0, 8};
        for (int what = 0; what < want.length; what++) {
            Check.same("account of all " + what, want[what], x.account(what));
        }
        for (int goat = 0; goat < 5; goat++) {
            Check.same("account of all: a goat in chests", 9 - goat, x.goatOf(goat, 5));
            Check.same("account of all: the chest", 9 - goat, x.bridgeOf(9 - goat, 7));
        }
        Check.same("account of all: counted", 6, x.counted());
        Check.same("account of all: counted again", 6, x.countedAgain());
        Check.same("account of all: tolls", 45, x.sum(true));
        Check.same("account of all: tolls without fog", 0, x.sum(false));
        Check.same("account of all: mean", 4.5, x.meanToll());
        Check.same("account of all: share", 0.6f, x.countedShare());
        Check.same("account of all: next", 48, x.next());
        Check.yes("account of all: well", x.isWell());
        String before = Check.dump(x);
        x.save();
        Check.same("account of all: all riddles expire", 6, x.pass(48));
        Check.same("account of all: all back", 10, x.restore());
        Check.same("account of all: as before", before, Check.dump(x));
    }

    private static void promise41MeanToll() {
        TrollBridges x = new TrollBridges();
        Check.throwing("meanToll: none", ArithmeticException.class, () -> (long) x.meanToll());
        x.bridge(0, 1, 1, 9);
        Check.same("meanToll: one", 9.0, x.meanToll());
        x.bridge(0, 1, 1, 0);
        Check.same("meanToll: two", 4.5, x.meanToll());
        x.bridge(0, 1, 1, 1);
        x.fog(0, 3);
        Check.same("meanToll: three, with fog", 10.0 / 3.0, x.meanToll());
        x.price(0, 1);
        Check.same("meanToll: another toll", 2.0 / 3.0, x.meanToll());
    }

    private static void promise42CountedShare() {
        TrollBridges x = new TrollBridges();
        x.troll();
        x.troll();
        Check.throwing("countedShare: none", ArithmeticException.class, () -> (long) x.countedShare());
        x.bridge(0, 1, 1, 9);
        Check.same("countedShare: none of one", 0.0f, x.countedShare());
        x.bridge(0, 1, 1, 9);
        x.bridge(0, 1, 1, 9);
        x.post(0, 1);
        Check.same("countedShare: one of three", 1.0f / 3.0f, x.countedShare());
        x.post(1, 2);
        Check.same("countedShare: two of three", 2.0f / 3.0f, x.countedShare());
    }

    private static final List<Consumer<TrollBridges>> EACH_CHANGE = List.of(
            x -> x.bridge(3, 4, 5, 6),
            x -> x.troll(),
            x -> x.goat(3, 40),
            x -> x.post(0, 0),
            x -> x.riddle(0, 3, 3),
            x -> x.fog(0, 3),
            x -> x.price(0, 3),
            x -> x.cross(0, 0),
            x -> x.dispute(0, 0),
            x -> x.cross(0, 0),
            x -> x.settle(0, false),
            x -> x.dispute(0, 0),
            x -> x.cross(0, 0),
            x -> x.settle(0, true),
            x -> x.strike(0, true),
            x -> x.strike(0, false),
            x -> x.pass(3),
            x -> x.fog(0, 5),
            x -> x.fog(0, 0),
            x -> x.leave(0),
            x -> Check.read(x, "goat 0 5;pass 1;troll"));

    /** A new object for each: nothing is promised about one after its 512th call. */
    private static void promise43UndoEachChange() {
        TrollBridges none = new TrollBridges();
        Check.badState("undo: none", () -> none.undo());
        for (int last = 0; last < EACH_CHANGE.size(); last++) {
            TrollBridges x = new TrollBridges();
            for (int step = 0; step < last; step++) {
                EACH_CHANGE.get(step).accept(x);
            }
            String before = Check.dump(x);
            EACH_CHANGE.get(last).accept(x);
            Check.no("undo: the change " + last + " changes something", before.equals(Check.dump(x)));
            Check.same("undo: left after the change " + last, Math.min(last, 7), x.undo());
            Check.same("undo: the change " + last, before, Check.dump(x));
        }
    }

    private static void promise43UndoTheLatestEight() {
        TrollBridges x = new TrollBridges();
        for (int hours = 1; hours <= 20; hours++) {
            x.pass(1);
            Check.same("undo: how many can be", Math.min(hours, 8), x.account(14));
        }
        for (int left = 7; left >= 4; left--) {
            Check.same("undo: left", left, x.undo());
            Check.same("undo: the hour", 12 + left, x.account(3));
        }
        x.pass(40);
        Check.same("undo: one more", 5, x.account(14));
        for (int left = 4; left >= 0; left--) {
            Check.same("undo: left again", left, x.undo());
            Check.same("undo: the hour again", 12 + left, x.account(3));
        }
        Check.badState("undo: no more", () -> x.undo());
        Check.same("undo: the eldest hour", 12, x.account(3));
    }

    private static void promise43FailuresAreNoChanges() {
        TrollBridges x = new TrollBridges();
        x.troll();
        x.pass(1);
        Check.refused(x, "undo: refused", 9, 0, () -> x.leave(0));
        Check.badNumber("undo: out of range", () -> x.pass(0));
        Check.noSuch("undo: no such", () -> x.leave(1));
        Check.throwing("undo: none of them", UnsupportedOperationException.class,
                () -> Check.read(x, "pass 1;pass 1;leave 0"));
        x.type('x');
        x.save();
        x.show(0);
        Check.same("undo: two changes", 2, x.account(14));
        Check.same("undo: the latest", 1, x.undo());
        Check.same("undo: hour 0", 0, x.account(3));
        Check.same("undo: the buffer stays", 1, x.account(13));
        Check.same("undo: the troll", 0, x.undo());
        Check.same("undo: no troll", 0, x.account(1));
    }

    private static void promise44Save() {
        TrollBridges x = new TrollBridges();
        Check.same("save: no bridges", 0, x.save());
        x.bridge(0, 1, 1, 1);
        Check.same("save: no change", 1, x.account(14));
        Check.same("save: in place of the earlier one", 1, x.save());
        x.bridge(0, 1, 1, 1);
        x.undo();
        x.undo();
        Check.same("save: not undone", 1, x.restore());
    }

    private static void promise45Restore() {
        TrollBridges x = new TrollBridges();
        Check.badState("restore: none", () -> x.restore());
        Check.read(x, "bridge 0 1 2 3;bridge 1 2 3 4;troll;post 0 1");
        Check.read(x, "goat 0 20;fog 1 9");
        Check.read(x, "riddle 0 3 9;goat 1 30;strike 1;dispute 1 1;cross 0 0");
        Check.read(x, "cross 0 1;pass 2");
        String saved = Check.dump(x);
        x.save();
        Check.read(x, "work 1;settle 1-;leave 0;pass 5;fog 0 8;troll;goat 3 3");
        x.type('z');
        Check.same("restore: bridges", 2, x.restore());
        Check.same("restore: as saved", saved, Check.dump(x));
        Check.same("restore: the buffer stays", 1, x.account(13));
        Check.same("restore: nothing to undo", 0, x.account(14));
        Check.badState("restore: no change can be undone", () -> x.undo());
        x.bridge(3, 4, 1, 1);
        Check.same("restore: changes are counted again", 1, x.account(14));
        x.bridge(3, 4, 1, 1);
        Check.same("restore: the snapshot stays", 2, x.restore());
        Check.same("restore: as saved again", saved, Check.dump(x));
    }
}
