/** Promises 1 to 17: a new object, the changes, and the numbers of bridges, trolls and goats. */
public final class ChangesTest {
    private ChangesTest() {
    }

    public static void main(String[] args) {
        promise1NewObject();
        promise2Bridge();
        promise3Troll();
        promise4Goat();
        promise5Post();
        promise6Leave();
        promise7Riddle();
        promise8Fog();
        promise9Price();
        promise10Cross();
        promise10CrossIntoChest();
        promise11Dispute();
        promise12Settle();
        promise13Strike();
        promise14Pass();
        promise15BridgeOf();
        promise16TrollOf();
        promise17GoatOf();
        Check.finish("ChangesTest");
    }

    private static void promise1NewObject() {
        TrollBridges x = new TrollBridges();
        for (int what = 0; what <= 14; what++) {
            Check.same("new: account " + what, 0, x.account(what));
        }
        Check.no("new: no general strike", x.isGeneral());
        Check.yes("new: well", x.isWell());
        Check.noSuch("new: no bridge", () -> x.bridgeOf(0, 0));
        Check.noSuch("new: no troll", () -> x.trollOf(0, 0));
        Check.noSuch("new: no goat", () -> x.goatOf(0, 0));
        Check.noElement("new: no line", () -> x.written(0));
    }

    private static void promise2Bridge() {
        TrollBridges x = new TrollBridges();
        Check.noSuch("bridge: one too low", () -> x.bridge(-1, 0, 1, 0));
        Check.noSuch("bridge: one too high", () -> x.bridge(6, 0, 1, 0));
        Check.noSuch("bridge: other too low", () -> x.bridge(0, -1, 1, 0));
        Check.noSuch("bridge: other too high, ahead of the range", () -> x.bridge(0, 6, 0, 0));
        Check.noSuch("bridge: two that are none, ahead of reason 2", () -> x.bridge(6, 6, 1, 0));
        Check.noSuch("bridge: lowest number", () -> x.bridge(Integer.MIN_VALUE, 0, 1, 0));
        Check.badNumber("bridge: span 0", () -> x.bridge(0, 1, 0, 0));
        Check.badNumber("bridge: span 10", () -> x.bridge(0, 1, 10, 0));
        Check.badNumber("bridge: toll -1", () -> x.bridge(0, 1, 1, -1));
        Check.badNumber("bridge: toll 10", () -> x.bridge(0, 1, 1, 10));
        Check.badNumber("bridge: range ahead of reason 2", () -> x.bridge(3, 3, 10, 0));
        Check.noElement("bridge: nothing refused yet", () -> x.refusal(false, false));
        Check.refused(x, "bridge: one land", 2, 3, () -> x.bridge(3, 3, 1, 0));
        Check.refused(x, "bridge: land 0", 2, 0, () -> x.bridge(0, 0, 1, 0));
        Check.same("bridge: least", 0, x.bridge(5, 0, 1, 0));
        Check.same("bridge: most", 1, x.bridge(0, 5, 9, 9));
        for (int bridge = 2; bridge < 10; bridge++) {
            Check.same("bridge: number", bridge, x.bridge(2, 4, 3, 2));
        }
        Check.refused(x, "bridge: reason 2 ahead of 1", 2, 4, () -> x.bridge(4, 4, 1, 1));
        Check.refused(x, "bridge: ten", 1, 10, () -> x.bridge(4, 3, 1, 1));
        Check.badNumber("bridge: range ahead of reason 1", () -> x.bridge(4, 3, 0, 1));
        Check.same("bridge: ten there", 10, x.account(0));
    }

    private static void promise3Troll() {
        TrollBridges x = new TrollBridges();
        for (int troll = 0; troll < 6; troll++) {
            Check.same("troll: number", troll, x.troll());
            Check.same("troll: no bridge", -1, x.trollOf(troll, 0));
            Check.same("troll: no coins", 0, x.trollOf(troll, 1));
            Check.same("troll: no riddle", 0, x.trollOf(troll, 2));
            Check.same("troll: no hours", 0, x.trollOf(troll, 3));
        }
        Check.refused(x, "troll: six", 1, 6, () -> x.troll());
        Check.same("troll: six there", 6, x.account(1));
    }

    private static void promise4Goat() {
        TrollBridges x = new TrollBridges();
        Check.noSuch("goat: land -1", () -> x.goat(-1, 0));
        Check.noSuch("goat: land 6, ahead of the range", () -> x.goat(6, 100));
        Check.badNumber("goat: -1 coins", () -> x.goat(0, -1));
        Check.badNumber("goat: 100 coins", () -> x.goat(0, 100));
        Check.same("goat: least", 0, x.goat(0, 0));
        Check.same("goat: most", 1, x.goat(5, 99));
        for (int goat = 2; goat < 5; goat++) {
            Check.same("goat: number", goat, x.goat(goat, 10 + goat));
        }
        Check.refused(x, "goat: five", 1, 5, () -> x.goat(0, 0));
        Check.badNumber("goat: range ahead of reason 1", () -> x.goat(0, 100));
        Check.same("goat: its land", 5, x.goatOf(1, 0));
        Check.same("goat: its coins", 99, x.goatOf(1, 1));
        Check.same("goat: not on strike", 0, x.goatOf(1, 2));
        Check.same("goat: coins brought", 0 + 99 + 12 + 13 + 14, x.account(8));
    }

    private static void promise5Post() {
        TrollBridges x = new TrollBridges();
        x.bridge(0, 1, 1, 1);
        x.bridge(1, 2, 1, 1);
        x.bridge(2, 3, 1, 1);
        x.troll();
        x.troll();
        x.goat(0, 5);
        x.goat(0, 5);
        Check.noSuch("post: troll -1", () -> x.post(-1, 0));
        Check.noSuch("post: troll 2", () -> x.post(2, 0));
        Check.noSuch("post: bridge -1", () -> x.post(0, -1));
        Check.noSuch("post: bridge 3", () -> x.post(0, 3));
        Check.same("post: from none", -1, x.post(0, 1));
        Check.same("post: troll's bridge", 1, x.trollOf(0, 0));
        Check.same("post: bridge's troll", 0, x.bridgeOf(1, 4));
        Check.same("post: to another", 1, x.post(0, 2));
        Check.same("post: the one before is free", -1, x.bridgeOf(1, 4));
        Check.same("post: from bridge 2", 2, x.post(0, 0));
        Check.same("post: from bridge 0", 0, x.post(0, 1));
        Check.refused(x, "post: already", 3, 1, () -> x.post(0, 1));
        Check.refused(x, "post: another counts", 4, 0, () -> x.post(1, 1));
        x.post(1, 2);
        Check.refused(x, "post: another counts, from a bridge", 4, 1, () -> x.post(0, 2));
        x.dispute(1, 1);
        Check.refused(x, "post: already, ahead of 10", 3, 1, () -> x.post(0, 1));
        Check.refused(x, "post: disputed", 10, 1, () -> x.post(0, 0));
        Check.refused(x, "post: disputed, ahead of 4", 10, 1, () -> x.post(0, 2));
        Check.refused(x, "post: another counts a disputed one", 4, 0, () -> x.post(1, 1));
        x.settle(1, true);
        Check.same("post: settled", 1, x.post(0, 0));
    }

    private static void promise6Leave() {
        TrollBridges x = new TrollBridges();
        x.bridge(0, 1, 1, 1);
        x.bridge(1, 2, 1, 1);
        x.troll();
        x.troll();
        x.goat(0, 5);
        Check.noSuch("leave: troll -1", () -> x.leave(-1));
        Check.noSuch("leave: troll 2", () -> x.leave(2));
        Check.refused(x, "leave: counts none", 9, 1, () -> x.leave(1));
        x.post(1, 1);
        x.riddle(1, 7, 5);
        Check.same("leave: its bridge", 1, x.leave(1));
        Check.same("leave: counts none then", -1, x.trollOf(1, 0));
        Check.same("leave: bridge not counted then", -1, x.bridgeOf(1, 4));
        Check.same("leave: keeps its riddle", 7, x.trollOf(1, 2));
        Check.same("leave: bridge without the riddle", 1, x.takes(1));
        x.post(1, 0);
        Check.same("leave: riddle at the other bridge", 8, x.takes(0));
        x.dispute(0, 0);
        Check.refused(x, "leave: disputed", 10, 0, () -> x.leave(1));
        x.settle(0, false);
        Check.same("leave: settled", 0, x.leave(1));
        Check.refused(x, "leave: twice", 9, 1, () -> x.leave(1));
    }

    private static void promise7Riddle() {
        TrollBridges x = new TrollBridges();
        x.troll();
        x.pass(3);
        Check.noSuch("riddle: troll -1", () -> x.riddle(-1, 1, 1));
        Check.noSuch("riddle: troll 1, ahead of the range", () -> x.riddle(1, 0, 0));
        Check.badNumber("riddle: difficulty 0", () -> x.riddle(0, 0, 1));
        Check.badNumber("riddle: difficulty 10", () -> x.riddle(0, 10, 1));
        Check.badNumber("riddle: 0 hours", () -> x.riddle(0, 1, 0));
        Check.badNumber("riddle: 49 hours", () -> x.riddle(0, 1, 49));
        Check.same("riddle: longest", 51, x.riddle(0, 9, 48));
        Check.refused(x, "riddle: holds", 5, 48, () -> x.riddle(0, 1, 1));
        x.pass(47);
        Check.refused(x, "riddle: holds one hour yet", 5, 1, () -> x.riddle(0, 1, 1));
        Check.badNumber("riddle: range ahead of 5", () -> x.riddle(0, 1, 0));
        x.pass(1);
        Check.same("riddle: expired", 0, x.trollOf(0, 2));
        Check.same("riddle: shortest", 52, x.riddle(0, 1, 1));
        Check.same("riddle: its difficulty", 1, x.trollOf(0, 2));
    }

    private static void promise8Fog() {
        TrollBridges x = new TrollBridges();
        x.bridge(0, 1, 1, 1);
        Check.noSuch("fog: bridge -1", () -> x.fog(-1, 1));
        Check.noSuch("fog: bridge 1, ahead of the range", () -> x.fog(1, 49));
        Check.badNumber("fog: -1 hours", () -> x.fog(0, -1));
        Check.badNumber("fog: 49 hours", () -> x.fog(0, 49));
        Check.refused(x, "fog: 0 hours without fog", 3, 0, () -> x.fog(0, 0));
        Check.same("fog: longest", 48, x.fog(0, 48));
        Check.refused(x, "fog: lifts then already", 3, 48, () -> x.fog(0, 48));
        Check.same("fog: shorter", 5, x.fog(0, 5));
        x.pass(2);
        Check.refused(x, "fog: lifts then already, later", 3, 3, () -> x.fog(0, 3));
        Check.same("fog: as many hours as before", 7, x.fog(0, 5));
        Check.same("fog: there", 1, x.bridgeOf(0, 5));
        Check.same("fog: lifted now", 2, x.fog(0, 0));
        Check.same("fog: not there", 0, x.bridgeOf(0, 5));
        Check.refused(x, "fog: lifted already", 3, 0, () -> x.fog(0, 0));
        x.fog(0, 1);
        x.pass(1);
        Check.same("fog: lifts at its hour", 0, x.bridgeOf(0, 5));
        Check.refused(x, "fog: lifted by itself", 3, 0, () -> x.fog(0, 0));
    }

    private static void promise9Price() {
        TrollBridges x = new TrollBridges();
        x.bridge(0, 1, 1, 4);
        x.troll();
        x.goat(0, 9);
        x.goat(0, 9);
        Check.noSuch("price: bridge -1", () -> x.price(-1, 1));
        Check.noSuch("price: bridge 1, ahead of the range", () -> x.price(1, 10));
        Check.badNumber("price: -1", () -> x.price(0, -1));
        Check.badNumber("price: 10", () -> x.price(0, 10));
        Check.refused(x, "price: already", 3, 4, () -> x.price(0, 4));
        Check.same("price: most", 4, x.price(0, 9));
        Check.same("price: least", 9, x.price(0, 0));
        Check.refused(x, "price: already 0", 3, 0, () -> x.price(0, 0));
        Check.same("price: told", 0, x.bridgeOf(0, 3));
        x.post(0, 0);
        x.dispute(1, 0);
        Check.refused(x, "price: already, ahead of 10", 3, 0, () -> x.price(0, 0));
        Check.refused(x, "price: disputed", 10, 1, () -> x.price(0, 1));
        x.settle(0, true);
        Check.same("price: settled", 0, x.price(0, 1));
    }

    private static void promise10Cross() {
        TrollBridges x = new TrollBridges();
        x.bridge(0, 1, 3, 5);
        x.bridge(1, 2, 4, 9);
        x.troll();
        x.goat(0, 12);
        x.goat(0, 4);
        x.goat(3, 50);
        Check.noSuch("cross: goat -1", () -> x.cross(-1, 0));
        Check.noSuch("cross: goat 3", () -> x.cross(3, 0));
        Check.noSuch("cross: bridge -1", () -> x.cross(0, -1));
        Check.noSuch("cross: bridge 2", () -> x.cross(0, 2));
        Check.refused(x, "cross: leads elsewhere", 7, 0, () -> x.cross(0, 1));
        Check.refused(x, "cross: from land 3", 7, 3, () -> x.cross(2, 1));
        Check.same("cross: without a troll", 3, x.cross(0, 0));
        Check.same("cross: no toll", 12, x.goatOf(0, 1));
        Check.same("cross: to the other land", 1, x.goatOf(0, 0));
        x.post(0, 0);
        x.riddle(0, 2, 10);
        x.fog(0, 4);
        Check.same("cross: fog and riddle", 8, x.cross(0, 0));
        Check.same("cross: back", 0, x.goatOf(0, 0));
        Check.same("cross: paid", 7, x.goatOf(0, 1));
        Check.same("cross: troll earned", 5, x.trollOf(0, 1));
        Check.same("cross: hour stays", 0, x.account(3));
        Check.same("cross: walked", 11, x.goatOf(0, 3));
        Check.same("cross: crossings", 2, x.goatOf(0, 4));
        Check.same("cross: of the bridge", 2, x.bridgeOf(0, 8));
        Check.refused(x, "cross: one coin lacks", 8, 1, () -> x.cross(1, 0));
        x.post(0, 1);
        x.cross(0, 0);
        Check.refused(x, "cross: two coins lack", 8, 2, () -> x.cross(0, 1));
        x.strike(0, true);
        Check.refused(x, "cross: on strike, ahead of 8", 6, 0, () -> x.cross(0, 1));
        x.strike(2, true);
        Check.refused(x, "cross: on strike, ahead of 7", 6, 2, () -> x.cross(2, 1));
        x.post(0, 0);
        x.price(0, 4);
        Check.yes("cross: general strike", x.isGeneral());
        Check.same("cross: in a general strike", 8, x.cross(1, 0));
        Check.same("cross: nothing to pay in it", 4, x.goatOf(1, 1));
        x.strike(2, false);
        Check.same("cross: all its coins", 8, x.cross(1, 0));
        Check.same("cross: none left", 0, x.goatOf(1, 1));
        x.price(0, 0);
        Check.same("cross: toll 0", 8, x.cross(1, 0));
        Check.yes("cross: well", x.isWell());
    }

    private static void promise10CrossIntoChest() {
        TrollBridges x = new TrollBridges();
        x.bridge(4, 5, 1, 3);
        x.troll();
        x.goat(4, 9);
        x.goat(5, 9);
        x.post(0, 0);
        x.dispute(0, 0);
        x.cross(0, 0);
        x.cross(0, 0);
        x.cross(1, 0);
        Check.same("chest: in it", 9, x.bridgeOf(0, 7));
        Check.same("chest: of the one that disputes", 6, x.goatOf(0, 5));
        Check.same("chest: of the other", 3, x.goatOf(1, 5));
        Check.same("chest: not the troll's", 0, x.trollOf(0, 1));
        Check.same("chest: goat has less", 3, x.goatOf(0, 1));
        x.cross(0, 0);
        Check.refused(x, "chest: too few coins", 8, 3, () -> x.cross(0, 0));
        x.strike(0, true);
        x.strike(1, true);
        x.goat(5, 0);
        Check.same("chest: nothing due", 1, x.cross(2, 0));
        Check.same("chest: nothing put in", 12, x.account(11));
    }

    private static void promise11Dispute() {
        TrollBridges x = new TrollBridges();
        x.bridge(0, 1, 3, 5);
        x.bridge(1, 2, 3, 5);
        x.troll();
        x.troll();
        x.goat(5, 0);
        x.goat(4, 0);
        Check.noSuch("dispute: goat -1", () -> x.dispute(-1, 0));
        Check.noSuch("dispute: goat 2", () -> x.dispute(2, 0));
        Check.noSuch("dispute: bridge -1", () -> x.dispute(0, -1));
        Check.noSuch("dispute: bridge 2", () -> x.dispute(0, 2));
        Check.refused(x, "dispute: not counted", 9, 1, () -> x.dispute(0, 1));
        x.post(0, 1);
        x.post(1, 0);
        x.strike(1, true);
        Check.same("dispute: by a goat on strike, far away", 1, x.dispute(1, 1));
        Check.same("dispute: told", 1, x.bridgeOf(1, 6));
        Check.refused(x, "dispute: disputed", 10, 1, () -> x.dispute(0, 1));
        Check.refused(x, "dispute: by the same again", 10, 1, () -> x.dispute(1, 1));
        Check.same("dispute: a second bridge", 2, x.dispute(1, 0));
        Check.same("dispute: two", 2, x.account(5));
    }

    private static void promise12Settle() {
        TrollBridges x = new TrollBridges();
        x.bridge(0, 1, 1, 5);
        x.bridge(0, 1, 1, 2);
        x.troll();
        x.troll();
        x.goat(0, 20);
        x.goat(1, 20);
        x.post(1, 0);
        x.post(0, 1);
        Check.noSuch("settle: bridge -1", () -> x.settle(-1, true));
        Check.noSuch("settle: bridge 2", () -> x.settle(2, true));
        Check.refused(x, "settle: not disputed", 11, 1, () -> x.settle(1, true));
        Check.refused(x, "settle: not disputed, bridge 0", 11, 0, () -> x.settle(0, false));
        x.dispute(1, 0);
        x.dispute(0, 1);
        x.cross(0, 0);
        x.cross(1, 0);
        x.cross(0, 1);
        Check.same("settle: for the troll", 10, x.settle(0, true));
        Check.same("settle: the troll has it", 10, x.trollOf(1, 1));
        Check.same("settle: chest empty", 0, x.bridgeOf(0, 7));
        Check.same("settle: not disputed then", -1, x.bridgeOf(0, 6));
        Check.same("settle: other chest stays", 2, x.account(11));
        Check.same("settle: goat has not", 13, x.goatOf(0, 1));
        Check.same("settle: for the goats", 2, x.settle(1, false));
        Check.same("settle: goat has it back", 15, x.goatOf(0, 1));
        Check.same("settle: nothing in chests", 0, x.goatOf(0, 5));
        Check.same("settle: not the troll", 0, x.trollOf(0, 1));
        x.dispute(0, 0);
        x.cross(0, 0);
        x.cross(1, 0);
        x.cross(1, 0);
        Check.same("settle: for several goats", 15, x.settle(0, false));
        Check.same("settle: the one's", 15, x.goatOf(0, 1));
        Check.same("settle: the other's", 15, x.goatOf(1, 1));
        x.dispute(0, 0);
        Check.same("settle: empty chest", 0, x.settle(0, true));
        Check.yes("settle: well", x.isWell());
    }

    private static void promise13Strike() {
        TrollBridges x = new TrollBridges();
        x.goat(0, 1);
        x.goat(0, 1);
        Check.noSuch("strike: goat -1", () -> x.strike(-1, true));
        Check.noSuch("strike: goat 2", () -> x.strike(2, false));
        Check.refused(x, "strike: works already", 3, 0, () -> x.strike(1, false));
        Check.same("strike: one", 1, x.strike(1, true));
        Check.refused(x, "strike: strikes already", 3, 1, () -> x.strike(1, true));
        Check.same("strike: told", 1, x.goatOf(1, 2));
        Check.same("strike: two", 2, x.strike(0, true));
        Check.same("strike: ends", 1, x.strike(1, false));
        Check.same("strike: told again", 0, x.goatOf(1, 2));
    }

    private static void promise14Pass() {
        TrollBridges x = new TrollBridges();
        Check.badNumber("pass: -1", () -> x.pass(-1));
        Check.badNumber("pass: 0", () -> x.pass(0));
        Check.badNumber("pass: 49", () -> x.pass(49));
        x.troll();
        x.troll();
        x.troll();
        x.troll();
        x.riddle(0, 1, 2);
        x.riddle(1, 1, 3);
        x.riddle(2, 1, 48);
        Check.same("pass: none expires", 0, x.pass(1));
        Check.same("pass: the hour", 1, x.account(3));
        Check.same("pass: two expire", 2, x.pass(2));
        Check.same("pass: expired ones do not again", 0, x.pass(44));
        Check.same("pass: the last", 1, x.pass(48));
        Check.same("pass: most hours", 95, x.account(3));
        x.riddle(0, 1, 48);
        Check.same("pass: just then", 1, x.pass(48));
    }

    private static void promise15BridgeOf() {
        TrollBridges x = new TrollBridges();
        x.bridge(0, 1, 1, 0);
        x.bridge(5, 2, 7, 3);
        x.troll();
        x.troll();
        x.goat(2, 30);
        x.goat(2, 30);
        long[] before = {5, 2, 7, 3, -1, 0, -1, 0, 0};
        checkBridge("bridgeOf: at first", x, before);
        x.post(1, 1);
        x.fog(1, 2);
        x.cross(0, 1);
        x.dispute(1, 1);
        x.cross(1, 1);
        x.cross(1, 1);
        long[] after = {5, 2, 7, 3, 1, 1, 1, 6, 3};
        checkBridge("bridgeOf: later", x, after);
        Check.noSuch("bridgeOf: bridge -1", () -> x.bridgeOf(-1, 0));
        Check.noSuch("bridgeOf: bridge 2, ahead of what", () -> x.bridgeOf(2, 9));
        Check.badNumber("bridgeOf: what -1", () -> x.bridgeOf(0, -1));
        Check.badNumber("bridgeOf: what 9", () -> x.bridgeOf(0, 9));
    }

    private static void checkBridge(String what, TrollBridges x, long[] want) {
        for (int number = 0; number < want.length; number++) {
            Check.same(what + ", " + number, want[number], x.bridgeOf(1, number));
        }
    }

    private static void promise16TrollOf() {
        TrollBridges x = new TrollBridges();
        x.bridge(0, 1, 1, 4);
        x.troll();
        x.troll();
        x.goat(0, 9);
        x.post(1, 0);
        x.cross(0, 0);
        x.riddle(1, 6, 3);
        x.pass(1);
        long[] want = {0, 4, 6, 2};
        for (int number = 0; number < want.length; number++) {
            Check.same("trollOf: " + number, want[number], x.trollOf(1, number));
        }
        x.pass(2);
        Check.same("trollOf: no riddle", 0, x.trollOf(1, 2));
        Check.same("trollOf: no hours", 0, x.trollOf(1, 3));
        x.pass(2);
        Check.same("trollOf: no hours, long after", 0, x.trollOf(1, 3));
        Check.noSuch("trollOf: troll -1", () -> x.trollOf(-1, 0));
        Check.noSuch("trollOf: troll 2, ahead of what", () -> x.trollOf(2, 4));
        Check.badNumber("trollOf: what -1", () -> x.trollOf(0, -1));
        Check.badNumber("trollOf: what 4", () -> x.trollOf(0, 4));
    }

    private static void promise17GoatOf() {
        TrollBridges x = new TrollBridges();
        x.bridge(0, 1, 2, 4);
        x.bridge(1, 3, 5, 1);
        x.troll();
        x.troll();
        x.goat(3, 2);
        x.goat(0, 9);
        x.post(0, 0);
        x.post(1, 1);
        x.dispute(0, 0);
        x.dispute(0, 1);
        x.cross(1, 0);
        x.cross(1, 1);
        x.cross(0, 1);
        x.strike(1, true);
        long[] want = {3, 4, 1, 7, 2, 5};
        for (int number = 0; number < want.length; number++) {
            Check.same("goatOf: " + number, want[number], x.goatOf(1, number));
        }
        Check.noSuch("goatOf: goat -1", () -> x.goatOf(-1, 0));
        Check.noSuch("goatOf: goat 2, ahead of what", () -> x.goatOf(2, 6));
        Check.badNumber("goatOf: what -1", () -> x.goatOf(0, -1));
        Check.badNumber("goatOf: what 6", () -> x.goatOf(0, 6));
    }
}
