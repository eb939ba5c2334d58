/** Objects with which tests begin, each in at most sixty calls, as an object is used for 512 at most. */
final class Scenes {
    private Scenes() {
    }

    /** Ten bridges, six trolls and five goats, without more; nothing was refused. */
    static TrollBridges full() {
        TrollBridges x = bridgesAndTrolls();
        for (int goat = 0; goat < 5; goat++) {
            x.goat(goat, 20);
        }
        return x;
    }

    /** Ten bridges of span 1 and toll 1, from each land to the next ones, and six trolls that count none. */
    static TrollBridges bridgesAndTrolls() {
        TrollBridges x = new TrollBridges();
        for (int bridge = 0; bridge < 10; bridge++) {
            x.bridge(bridge % 5, bridge % 5 + 1, 1, 1);
        }
        for (int troll = 0; troll < 6; troll++) {
            x.troll();
        }
        return x;
    }

    /**
     * At the hour 2, bridges 0, 1 and 2 from land 0 to 1, 1 to 2, 2 to 3, with tolls 5, 6, 7; trolls 0 and 1 count
     * the first two of them, troll 2 counts none; troll 0 has a riddle for 7 hours yet, bridge 2 is in fog for 3;
     * goat 1 disputes bridge 0, where goat 0, now in land 1 with 10 coins of 20, paid 5 to the troll and 5 into the
     * chest; goat 1, in land 0, has 3 coins; goat 2, in land 5, has 50 and is on strike.
     */
    static TrollBridges disputed() {
        TrollBridges x = new TrollBridges();
        x.bridge(0, 1, 3, 5);
        x.bridge(1, 2, 4, 6);
        x.bridge(2, 3, 2, 7);
        x.troll();
        x.troll();
        x.troll();
        x.goat(1, 20);
        x.goat(0, 3);
        x.goat(5, 50);
        x.post(0, 0);
        x.post(1, 1);
        x.pass(2);
        x.riddle(0, 4, 7);
        x.fog(2, 3);
        x.cross(0, 0);
        x.dispute(1, 0);
        x.cross(0, 0);
        x.strike(2, true);
        return x;
    }

    /**
     * At the hour 1, ten bridges of span 9 and toll 2 from each land to the next ones, with trolls 0 to 5 at bridges 0
     * to 5; all riddles have expired, all fog has lifted. Goats 0 to 4 came to lands 0 to 4 with 99 coins, and crossed
     * the bridges of their numbers there and back.
     */
    static TrollBridges worked() {
        TrollBridges x = new TrollBridges();
        for (int bridge = 0; bridge < 10; bridge++) {
            x.bridge(bridge % 5, bridge % 5 + 1, 9, 2);
            x.fog(bridge, 1);
        }
        for (int troll = 0; troll < 6; troll++) {
            x.troll();
            x.post(troll, troll);
            x.riddle(troll, 1, 1);
        }
        x.pass(1);
        for (int goat = 0; goat < 5; goat++) {
            x.goat(goat, 99);
            x.cross(goat, goat);
            x.cross(goat, goat);
        }
        return x;
    }

    /** Bridge 0 from land 0 to 1, of span 3 and toll 5, that troll 0 counts, and goat 0 in land 0 with 20 coins. */
    static TrollBridges tollBridge() {
        TrollBridges x = new TrollBridges();
        x.bridge(0, 1, 3, 5);
        x.troll();
        x.post(0, 0);
        x.goat(0, 20);
        return x;
    }
}
