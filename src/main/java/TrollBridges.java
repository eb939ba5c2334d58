import java.util.NoSuchElementException;

/**
 * A machine that counts bridges. What each call does, answers and throws stands in ../shared/DOC.md;
 * the methods of the face stand here in the order of its promises.
 */
public final class TrollBridges {
    private static final int NONE = -1;
    private static final int LANDS = 6;
    private static final int MOST_BRIDGES = 10;
    private static final int MOST_TROLLS = 6;
    private static final int MOST_GOATS = 5;
    private static final int MOST_HOURS = 48;
    private static final int MOST_COINS = 99;
    private static final int MOST_TYPED = 60;
    /** Six lands that hang in one chain have 16 characters, a bridge has 12 at most. */
    private static final int MOST_WRITTEN = 16;

    private final World world = new World();
    private final Changes changes = new Changes(world);
    private final Ways ways = new Ways(world);
    private final History history = new History();
    private final Row snapshot = new Row(World.CELLS);
    private boolean hasSnapshot = false;
    private final Line typed = new Line(MOST_TYPED);
    private final Commands commands = new Commands(typed);
    private final Line line = new Line(MOST_WRITTEN);
    private final Refusal latest = new Refusal();
    private int malformedAt = NONE;

    public TrollBridges() {
    }

    // ---- bridges, trolls, goats

    public int bridge(int one, int other, int span, int toll)
            throws IndexOutOfBoundsException, IllegalArgumentException, UnsupportedOperationException {
        history.prepare(world);
        return conclude(changes.addBridge(one, other, span, toll));
    }

    public int troll() throws UnsupportedOperationException {
        history.prepare(world);
        return conclude(changes.addTroll());
    }

    public int goat(int land, int coins)
            throws IndexOutOfBoundsException, IllegalArgumentException, UnsupportedOperationException {
        history.prepare(world);
        return conclude(changes.addGoat(land, coins));
    }

    public int post(int troll, int bridge)
            throws IndexOutOfBoundsException, UnsupportedOperationException {
        history.prepare(world);
        return conclude(changes.postTroll(troll, bridge));
    }

    public int leave(int troll) throws IndexOutOfBoundsException, UnsupportedOperationException {
        history.prepare(world);
        return conclude(changes.leaveBridge(troll));
    }

    public int riddle(int troll, int difficulty, int hours)
            throws IndexOutOfBoundsException, IllegalArgumentException, UnsupportedOperationException {
        history.prepare(world);
        return conclude(changes.giveRiddle(troll, difficulty, hours));
    }

    public int fog(int bridge, int hours)
            throws IndexOutOfBoundsException, IllegalArgumentException, UnsupportedOperationException {
        history.prepare(world);
        return conclude(changes.layFog(bridge, hours));
    }

    public int price(int bridge, int toll)
            throws IndexOutOfBoundsException, IllegalArgumentException, UnsupportedOperationException {
        history.prepare(world);
        return conclude(changes.changeToll(bridge, toll));
    }

    public int cross(int goat, int bridge)
            throws IndexOutOfBoundsException, UnsupportedOperationException {
        history.prepare(world);
        return conclude(changes.crossBridge(goat, bridge));
    }

    public int dispute(int goat, int bridge)
            throws IndexOutOfBoundsException, UnsupportedOperationException {
        history.prepare(world);
        return conclude(changes.disputeToll(goat, bridge));
    }

    public int settle(int bridge, boolean isForTroll)
            throws IndexOutOfBoundsException, UnsupportedOperationException {
        history.prepare(world);
        return conclude(changes.settleDispute(bridge, isForTroll));
    }

    public int strike(int goat, boolean isOn)
            throws IndexOutOfBoundsException, UnsupportedOperationException {
        history.prepare(world);
        return conclude(changes.changeStrike(goat, isOn));
    }

    public int pass(int hours) throws IllegalArgumentException {
        history.prepare(world);
        return conclude(changes.passHours(hours));
    }

    public int bridgeOf(int bridge, int what) throws IndexOutOfBoundsException, IllegalArgumentException {
        needBridge(bridge);
        switch (what) {
            case 0: return world.ofBridge(bridge, World.ONE);
            case 1: return world.ofBridge(bridge, World.OTHER);
            case 2: return world.ofBridge(bridge, World.SPAN);
            case 3: return world.ofBridge(bridge, World.TOLL);
            case 4: return world.ofBridge(bridge, World.COUNTER);
            case 5: return world.isInFog(bridge) ? 1 : 0;
            case 6: return world.ofBridge(bridge, World.DISPUTER);
            case 7: return world.coinsInChest(bridge);
            case 8: return world.ofBridge(bridge, World.CROSSED);
            default: throw new IllegalArgumentException("no such number of a bridge");
        }
    }

    public int trollOf(int troll, int what) throws IndexOutOfBoundsException, IllegalArgumentException {
        if (!world.isTroll(troll)) {
            throw new IndexOutOfBoundsException("no such troll");
        }
        switch (what) {
            case 0: return world.ofTroll(troll, World.POST);
            case 1: return world.ofTroll(troll, World.EARNED);
            case 2: return world.difficultyNow(troll);
            case 3: return world.riddleHours(troll);
            default: throw new IllegalArgumentException("no such number of a troll");
        }
    }

    public int goatOf(int goat, int what) throws IndexOutOfBoundsException, IllegalArgumentException {
        if (!world.isGoat(goat)) {
            throw new IndexOutOfBoundsException("no such goat");
        }
        switch (what) {
            case 0: return world.ofGoat(goat, World.LAND);
            case 1: return world.ofGoat(goat, World.PURSE);
            case 2: return world.ofGoat(goat, World.STRIKES);
            case 3: return world.ofGoat(goat, World.WALKED);
            case 4: return world.ofGoat(goat, World.CROSSINGS);
            case 5: return world.coinsInChestsOf(goat);
            default: throw new IllegalArgumentException("no such number of a goat");
        }
    }

    // ---- tolls, ways

    public int due(int bridge) throws IndexOutOfBoundsException {
        needBridge(bridge);
        return world.tollDue(bridge);
    }

    public int takes(int bridge) throws IndexOutOfBoundsException {
        needBridge(bridge);
        return world.hoursOver(bridge);
    }

    public int cheapest(int from, int to) throws IndexOutOfBoundsException, NoSuchElementException {
        needLand(from);
        needLand(to);
        ways.measure(false);
        return needWay(ways.landByLand(from, to));
    }

    public int cheapestAgain(int from, int to) throws IndexOutOfBoundsException, NoSuchElementException {
        needLand(from);
        needLand(to);
        ways.measure(false);
        return needWay(ways.bridgeByBridge(from, to));
    }

    public int fastest(int from, int to) throws IndexOutOfBoundsException, NoSuchElementException {
        needLand(from);
        needLand(to);
        ways.measure(true);
        return needWay(ways.landByLand(from, to));
    }

    public int fastestAgain(int from, int to) throws IndexOutOfBoundsException, NoSuchElementException {
        needLand(from);
        needLand(to);
        ways.measure(true);
        return needWay(ways.bridgeByBridge(from, to));
    }

    public int hangs(int from, int land) throws IndexOutOfBoundsException, NoSuchElementException {
        needLand(from);
        needLand(land);
        ways.measure(true);
        needWay(ways.landByLand(from, land));
        return ways.hanger(land);
    }

    public int sum(boolean areAll) {
        return world.sumOfTolls(areAll);
    }

    public int counted() {
        return world.countTrollsPosted();
    }

    public int countedAgain() {
        return world.countBridgesCounted();
    }

    public boolean isGeneral() {
        return world.isGeneralStrike();
    }

    public int richest(int place) throws NoSuchElementException {
        for (int troll = 0; troll < world.of(World.TROLLS); troll++) {
            if (world.placeOfTroll(troll) == place) {
                return troll;
            }
        }
        throw new NoSuchElementException("no such place");
    }

    public int tired(int place) throws NoSuchElementException {
        for (int goat = 0; goat < world.of(World.GOATS); goat++) {
            if (world.placeOfGoat(goat) == place) {
                return goat;
            }
        }
        throw new NoSuchElementException("no such place");
    }

    public int next() throws NoSuchElementException {
        int hour = world.nextEnd();
        if (hour == NONE) {
            throw new NoSuchElementException("no riddle holds and there is no fog");
        }
        return hour;
    }

    public boolean isWell() {
        int held = world.sumOfGoats(World.PURSE) + world.sumOfTrolls(World.EARNED) + world.coinsInChests();
        return world.countTrollsPosted() == world.countBridgesCounted()
                && ways.areAlike(false)
                && ways.areAlike(true)
                && world.of(World.BROUGHT) == held;
    }

    // ---- commands, lines

    public int type(char character) throws IllegalStateException {
        if (!typed.append(character)) {
            throw new IllegalStateException("the input buffer is full");
        }
        return typed.length();
    }

    public int read() throws IllegalArgumentException, UnsupportedOperationException {
        boolean isFormed = commands.parse();
        typed.clear();
        if (!isFormed) {
            malformedAt = commands.errorAt();
            throw new IllegalArgumentException("the text is malformed");
        }
        history.prepare(world);
        for (int command = 0; command < commands.count(); command++) {
            Verdict verdict = changes.carryOut(commands, command);
            if (verdict.kind != Verdict.DONE) {
                history.takeBack(world);
                latest.keepCaused(command, verdict);
                throw new UnsupportedOperationException("a command is refused");
            }
        }
        history.keepPrepared();
        return commands.count();
    }

    public int errorPosition() throws NoSuchElementException {
        if (malformedAt == NONE) {
            throw new NoSuchElementException("no text was malformed");
        }
        return malformedAt;
    }

    public int refusal(boolean isCause, boolean isDetail) throws NoSuchElementException {
        if (isCause ? !latest.hasCause() : !latest.isThere()) {
            throw new NoSuchElementException("nothing was refused, or there is no cause");
        }
        if (isCause) {
            return isDetail ? latest.causeDetail() : latest.cause();
        }
        return isDetail ? latest.detail() : latest.reason();
    }

    public int show(int from) throws IndexOutOfBoundsException {
        needLand(from);
        ways.measure(true);
        ways.hangAll(from);
        line.clear();
        writeHanging(line, ways, from, 0);
        return line.length();
    }

    public int tell(int bridge) throws IndexOutOfBoundsException {
        needBridge(bridge);
        line.clear();
        line.appendDigit(bridge);
        line.append(':');
        line.appendDigit(world.ofBridge(bridge, World.ONE));
        line.appendDigit(world.ofBridge(bridge, World.OTHER));
        line.append('*');
        line.appendDigit(world.ofBridge(bridge, World.SPAN));
        line.append('$');
        line.appendDigit(world.ofBridge(bridge, World.TOLL));
        if (world.isCounted(bridge)) {
            line.append('t');
            line.appendDigit(world.ofBridge(bridge, World.COUNTER));
        }
        if (world.isInFog(bridge)) {
            line.append('~');
        }
        if (world.isDisputed(bridge)) {
            line.append('?');
        }
        return line.length();
    }

    public char written(int index) throws NoSuchElementException {
        if (index < 0 || index >= line.length()) {
            throw new NoSuchElementException("no such character in the line");
        }
        return line.signAt(index);
    }

    // ---- accounts

    public int account(int what) throws IllegalArgumentException {
        switch (what) {
            case 0: return world.of(World.BRIDGES);
            case 1: return world.of(World.TROLLS);
            case 2: return world.of(World.GOATS);
            case 3: return world.of(World.HOUR);
            case 4: return world.sumOfGoats(World.STRIKES);
            case 5: return world.countDisputes();
            case 6: return world.countRiddles(MOST_HOURS);
            case 7: return world.countFogs();
            case 8: return world.of(World.BROUGHT);
            case 9: return world.sumOfGoats(World.PURSE);
            case 10: return world.sumOfTrolls(World.EARNED);
            case 11: return world.coinsInChests();
            case 12: return world.sumOfGoats(World.CROSSINGS);
            case 13: return typed.length();
            case 14: return history.count();
            default: throw new IllegalArgumentException("no such account");
        }
    }

    public double meanToll() throws ArithmeticException {
        int bridges = world.of(World.BRIDGES);
        if (bridges == 0) {
            throw new ArithmeticException("there are no bridges");
        }
        return (double) world.sumOfTolls(true) / (double) bridges;
    }

    public float countedShare() throws ArithmeticException {
        int bridges = world.of(World.BRIDGES);
        if (bridges == 0) {
            throw new ArithmeticException("there are no bridges");
        }
        return (float) world.countBridgesCounted() / (float) bridges;
    }

    // ---- undo, the snapshot

    public int undo() throws IllegalStateException {
        if (history.count() == 0) {
            throw new IllegalStateException("no change can be undone");
        }
        history.stepBack(world);
        return history.count();
    }

    public int save() {
        world.storeIn(snapshot, 0);
        hasSnapshot = true;
        return world.of(World.BRIDGES);
    }

    public int restore() throws IllegalStateException {
        if (!hasSnapshot) {
            throw new IllegalStateException("there is no snapshot");
        }
        world.loadFrom(snapshot, 0);
        history.forget();
        return world.of(World.BRIDGES);
    }

    // ---- what the calls share

    /** Keeps the change that is done, or throws what its verdict asks. */
    private int conclude(Verdict verdict) {
        switch (verdict.kind) {
            case Verdict.NO_SUCH:
                throw new IndexOutOfBoundsException("there is none of this number");
            case Verdict.OUT_OF_RANGE:
                throw new IllegalArgumentException("a number is out of range");
            case Verdict.REFUSED:
                latest.keep(verdict);
                throw new UnsupportedOperationException("refused, for the reason that is kept");
            default:
                history.keepPrepared();
                return verdict.number;
        }
    }

    private void needBridge(int bridge) {
        if (!world.isBridge(bridge)) {
            throw new IndexOutOfBoundsException("no such bridge");
        }
    }

    private static void needLand(int land) {
        if (!isLand(land)) {
            throw new IndexOutOfBoundsException("no such land");
        }
    }

    private static int needWay(int length) {
        if (length == NONE) {
            throw new NoSuchElementException("there is no way");
        }
        return length;
    }

    private static boolean isLand(int land) {
        return isWithin(land, 0, LANDS - 1);
    }

    private static boolean isWithin(int number, int least, int most) {
        return number >= least && number <= most;
    }

    private static void writeHanging(Line line, Ways ways, int land, int depth) {
        line.appendDigit(land);
        if (depth >= LANDS) {
            return;
        }
        boolean isFirst = true;
        for (int hanging = 0; hanging < LANDS; hanging++) {
            if (ways.hangerKept(hanging) == land) {
                line.append(isFirst ? '(' : ' ');
                isFirst = false;
                writeHanging(line, ways, hanging, depth + 1);
            }
        }
        if (!isFirst) {
            line.append(')');
        }
    }

    /** A row of numbers with all tests of places: beyond it 0 is read, and nothing is put. */
    private static final class Row {
        private final int[] numbers;

        Row(int length) {
            numbers = new int[Math.max(length, 0)];
        }

        int at(int place) {
            return place >= 0 && place < numbers.length ? numbers[place] : 0;
        }

        void put(int place, int number) {
            if (place >= 0 && place < numbers.length) {
                numbers[place] = number;
            }
        }

        void fill(int number) {
            for (int place = 0; place < numbers.length; place++) {
                numbers[place] = number;
            }
        }

        /** Copies all of the numbers, or none if either row is too short for them. */
        void copy(Row source, int from, int to, int count) {
            boolean areThere = from >= 0 && from <= source.numbers.length - count;
            boolean isRoom = to >= 0 && to <= numbers.length - count;
            if (count >= 0 && areThere && isRoom) {
                System.arraycopy(source.numbers, from, numbers, to, count);
            }
        }
    }

    /** A line of characters, with a greatest length. */
    private static final class Line {
        private final Row signs;
        private final int most;
        private int length = 0;

        Line(int most) {
            this.most = most;
            signs = new Row(most);
        }

        int length() {
            return length;
        }

        void clear() {
            length = 0;
        }

        /** Tells whether there was room for the character. */
        boolean append(char sign) {
            if (length >= most) {
                return false;
            }
            signs.put(length, sign);
            length++;
            return true;
        }

        void appendDigit(int digit) {
            append((char) ('0' + digit));
        }

        /** The character 0, which stands in no form, is read behind the end. */
        char signAt(int index) {
            return index < length ? (char) signs.at(index) : (char) 0;
        }
    }

    /** All that changes can change, in one row, so that it is copied whole. */
    private static final class World {
        // the numbers of the whole
        static final int HOUR = 0;
        static final int BROUGHT = 1;
        static final int BRIDGES = 2;
        static final int TROLLS = 3;
        static final int GOATS = 4;
        // the numbers of a bridge; those from PAID on are what each goat paid into its chest
        static final int ONE = 0;
        static final int OTHER = 1;
        static final int SPAN = 2;
        static final int TOLL = 3;
        static final int COUNTER = 4;
        static final int LIFTS = 5;
        static final int DISPUTER = 6;
        static final int CROSSED = 7;
        static final int PAID = 8;
        // the numbers of a troll
        static final int POST = 0;
        static final int EARNED = 1;
        static final int DIFFICULTY = 2;
        static final int EXPIRES = 3;
        // the numbers of a goat
        static final int LAND = 0;
        static final int PURSE = 1;
        static final int STRIKES = 2;
        static final int WALKED = 3;
        static final int CROSSINGS = 4;

        private static final int PER_BRIDGE = PAID + MOST_GOATS;
        private static final int PER_TROLL = 4;
        private static final int PER_GOAT = 5;
        private static final int FIRST_BRIDGE = 5;
        private static final int FIRST_TROLL = FIRST_BRIDGE + MOST_BRIDGES * PER_BRIDGE;
        private static final int FIRST_GOAT = FIRST_TROLL + MOST_TROLLS * PER_TROLL;
        static final int CELLS = FIRST_GOAT + MOST_GOATS * PER_GOAT;

        /** The innermost functions ask it without a function between, so that calls stay seven deep. */
        private final Row cells = new Row(CELLS);

        void storeIn(Row row, int place) {
            row.copy(cells, 0, place, CELLS);
        }

        void loadFrom(Row row, int place) {
            cells.copy(row, place, 0, CELLS);
        }

        int of(int what) {
            return cells.at(what);
        }

        void set(int what, int number) {
            cells.put(what, number);
        }

        int ofBridge(int bridge, int what) {
            return cells.at(FIRST_BRIDGE + bridge * PER_BRIDGE + what);
        }

        void setBridge(int bridge, int what, int number) {
            cells.put(FIRST_BRIDGE + bridge * PER_BRIDGE + what, number);
        }

        int ofTroll(int troll, int what) {
            return cells.at(FIRST_TROLL + troll * PER_TROLL + what);
        }

        void setTroll(int troll, int what, int number) {
            cells.put(FIRST_TROLL + troll * PER_TROLL + what, number);
        }

        int ofGoat(int goat, int what) {
            return cells.at(FIRST_GOAT + goat * PER_GOAT + what);
        }

        void setGoat(int goat, int what, int number) {
            cells.put(FIRST_GOAT + goat * PER_GOAT + what, number);
        }

        boolean isBridge(int bridge) {
            return bridge >= 0 && bridge < of(BRIDGES);
        }

        boolean isTroll(int troll) {
            return troll >= 0 && troll < of(TROLLS);
        }

        boolean isGoat(int goat) {
            return goat >= 0 && goat < of(GOATS);
        }

        boolean isCounted(int bridge) {
            return ofBridge(bridge, COUNTER) != NONE;
        }

        boolean isDisputed(int bridge) {
            return ofBridge(bridge, DISPUTER) != NONE;
        }

        boolean isInFog(int bridge) {
            return of(HOUR) < ofBridge(bridge, LIFTS);
        }

        /** For how many hours the riddle of a troll holds yet, 0 if none does. */
        int riddleHours(int troll) {
            return Math.max(0, cells.at(FIRST_TROLL + troll * PER_TROLL + EXPIRES) - cells.at(HOUR));
        }

        /** The difficulty of the riddle of a troll, 0 if none holds. */
        int difficultyNow(int troll) {
            return riddleHours(troll) > 0 ? ofTroll(troll, DIFFICULTY) : 0;
        }

        boolean isGeneralStrike() {
            int strikers = sumOfGoats(STRIKES);
            return strikers > of(GOATS) - strikers;
        }

        int tollDue(int bridge) {
            return isCounted(bridge) && !isGeneralStrike() ? ofBridge(bridge, TOLL) : 0;
        }

        int hoursOver(int bridge) {
            int span = ofBridge(bridge, SPAN);
            int hours = isInFog(bridge) ? 2 * span : span;
            return isCounted(bridge) ? hours + difficultyNow(ofBridge(bridge, COUNTER)) : hours;
        }

        /** The land to which a bridge leads from a land, NONE if it does not lead from there. */
        int across(int bridge, int land) {
            if (ofBridge(bridge, ONE) == land) {
                return ofBridge(bridge, OTHER);
            }
            return ofBridge(bridge, OTHER) == land ? ofBridge(bridge, ONE) : NONE;
        }

        int coinsInChest(int bridge) {
            int coins = 0;
            for (int goat = 0; goat < of(GOATS); goat++) {
                coins += ofBridge(bridge, PAID + goat);
            }
            return coins;
        }

        int coinsInChestsOf(int goat) {
            int coins = 0;
            for (int bridge = 0; bridge < of(BRIDGES); bridge++) {
                coins += ofBridge(bridge, PAID + goat);
            }
            return coins;
        }

        int coinsInChests() {
            int coins = 0;
            for (int bridge = 0; bridge < of(BRIDGES); bridge++) {
                coins += coinsInChest(bridge);
            }
            return coins;
        }

        int sumOfTrolls(int what) {
            int sum = 0;
            for (int troll = 0; troll < of(TROLLS); troll++) {
                sum += ofTroll(troll, what);
            }
            return sum;
        }

        int sumOfGoats(int what) {
            int sum = 0;
            for (int goat = 0; goat < cells.at(GOATS); goat++) {
                sum += cells.at(FIRST_GOAT + goat * PER_GOAT + what);
            }
            return sum;
        }

        int sumOfTolls(boolean areAll) {
            int sum = 0;
            for (int bridge = 0; bridge < of(BRIDGES); bridge++) {
                if (areAll || !isInFog(bridge)) {
                    sum += ofBridge(bridge, TOLL);
                }
            }
            return sum;
        }

        int countTrollsPosted() {
            int count = 0;
            for (int troll = 0; troll < of(TROLLS); troll++) {
                if (ofTroll(troll, POST) != NONE) {
                    count++;
                }
            }
            return count;
        }

        int countBridgesCounted() {
            int count = 0;
            for (int bridge = 0; bridge < of(BRIDGES); bridge++) {
                if (isCounted(bridge)) {
                    count++;
                }
            }
            return count;
        }

        int countDisputes() {
            int count = 0;
            for (int bridge = 0; bridge < of(BRIDGES); bridge++) {
                if (isDisputed(bridge)) {
                    count++;
                }
            }
            return count;
        }

        int countFogs() {
            int count = 0;
            for (int bridge = 0; bridge < of(BRIDGES); bridge++) {
                if (isInFog(bridge)) {
                    count++;
                }
            }
            return count;
        }

        /** How many riddles hold and expire within so many hours. */
        int countRiddles(int hours) {
            int count = 0;
            for (int troll = 0; troll < of(TROLLS); troll++) {
                if (isWithin(riddleHours(troll), 1, hours)) {
                    count++;
                }
            }
            return count;
        }

        /** The hour at which the next riddle expires or fog lifts, NONE if there is neither. */
        int nextEnd() {
            int end = NONE;
            for (int troll = 0; troll < of(TROLLS); troll++) {
                end = earlierEnd(end, ofTroll(troll, EXPIRES));
            }
            for (int bridge = 0; bridge < of(BRIDGES); bridge++) {
                end = earlierEnd(end, ofBridge(bridge, LIFTS));
            }
            return end;
        }

        private int earlierEnd(int end, int another) {
            boolean isToCome = another > of(HOUR);
            return isToCome && (end == NONE || another < end) ? another : end;
        }

        /** How many trolls come before a troll in the order of the richest. */
        int placeOfTroll(int troll) {
            int place = 0;
            for (int another = 0; another < of(TROLLS); another++) {
                if (isRicher(another, troll)) {
                    place++;
                }
            }
            return place;
        }

        private boolean isRicher(int troll, int another) {
            int coins = ofTroll(troll, EARNED) - ofTroll(another, EARNED);
            int crossed = crossedAt(troll) - crossedAt(another);
            if (coins != 0) {
                return coins > 0;
            }
            return crossed != 0 ? crossed > 0 : troll < another;
        }

        /** How often the bridge of a troll was crossed, 0 if it has none. */
        private int crossedAt(int troll) {
            int bridge = ofTroll(troll, POST);
            return bridge == NONE ? 0 : ofBridge(bridge, CROSSED);
        }

        /** How many goats come before a goat in the order of the tired. */
        int placeOfGoat(int goat) {
            int place = 0;
            for (int another = 0; another < of(GOATS); another++) {
                if (isMoreTired(another, goat)) {
                    place++;
                }
            }
            return place;
        }

        private boolean isMoreTired(int goat, int another) {
            int walked = ofGoat(goat, WALKED) - ofGoat(another, WALKED);
            int coins = ofGoat(goat, PURSE) - ofGoat(another, PURSE);
            if (walked != 0) {
                return walked > 0;
            }
            return coins != 0 ? coins > 0 : goat < another;
        }
    }

    /** What became of a change: its number if it is done, or why it is not done. */
    private static final class Verdict {
        static final int DONE = 0;
        static final int NO_SUCH = 1;
        static final int OUT_OF_RANGE = 2;
        static final int REFUSED = 3;

        private int kind = DONE;
        private int number = 0;
        private int reason = 0;
        private int detail = 0;

        Verdict done(int itsNumber) {
            kind = DONE;
            number = itsNumber;
            return this;
        }

        Verdict noSuch() {
            kind = NO_SUCH;
            return this;
        }

        Verdict outOfRange() {
            kind = OUT_OF_RANGE;
            return this;
        }

        Verdict refused(int itsReason, int itsDetail) {
            kind = REFUSED;
            reason = itsReason;
            detail = itsDetail;
            return this;
        }
    }

    /** The latest refusal; the reason 0 stands for none. */
    private static final class Refusal {
        static final int FULL = 1;
        static final int ONE_LAND = 2;
        static final int ALREADY = 3;
        static final int ANOTHER_COUNTS = 4;
        static final int RIDDLE_HOLDS = 5;
        static final int ON_STRIKE = 6;
        static final int LEADS_ELSEWHERE = 7;
        static final int TOO_FEW_COINS = 8;
        static final int NOT_COUNTED = 9;
        static final int DISPUTED = 10;
        static final int NOT_DISPUTED = 11;
        static final int COMMAND = 12;

        private int reason = 0;
        private int detail = 0;
        private int cause = 0;
        private int causeDetail = 0;

        void keep(Verdict verdict) {
            reason = verdict.reason;
            detail = verdict.detail;
            cause = 0;
            causeDetail = 0;
        }

        void keepCaused(int command, Verdict verdict) {
            boolean isRefused = verdict.kind == Verdict.REFUSED;
            reason = COMMAND;
            detail = command;
            cause = isRefused ? verdict.reason : 0;
            causeDetail = isRefused ? verdict.detail : 0;
        }

        boolean isThere() {
            return reason != 0;
        }

        boolean hasCause() {
            return cause != 0;
        }

        int reason() {
            return reason;
        }

        int detail() {
            return detail;
        }

        int cause() {
            return cause;
        }

        int causeDetail() {
            return causeDetail;
        }
    }

    /** The changes: each looks at all that could stand against it before it touches the world. */
    private static final class Changes {
        private final World world;
        private final Verdict verdict = new Verdict();

        Changes(World world) {
            this.world = world;
        }

        Verdict addBridge(int one, int other, int span, int toll) {
            if (!isLand(one) || !isLand(other)) {
                return verdict.noSuch();
            }
            if (!isWithin(span, 1, 9) || !isWithin(toll, 0, 9)) {
                return verdict.outOfRange();
            }
            if (one == other) {
                return verdict.refused(Refusal.ONE_LAND, one);
            }
            int bridge = world.of(World.BRIDGES);
            if (bridge >= MOST_BRIDGES) {
                return verdict.refused(Refusal.FULL, MOST_BRIDGES);
            }
            world.set(World.BRIDGES, bridge + 1);
            world.setBridge(bridge, World.ONE, one);
            world.setBridge(bridge, World.OTHER, other);
            world.setBridge(bridge, World.SPAN, span);
            world.setBridge(bridge, World.TOLL, toll);
            world.setBridge(bridge, World.COUNTER, NONE);
            world.setBridge(bridge, World.DISPUTER, NONE);
            return verdict.done(bridge);
        }

        Verdict addTroll() {
            int troll = world.of(World.TROLLS);
            if (troll >= MOST_TROLLS) {
                return verdict.refused(Refusal.FULL, MOST_TROLLS);
            }
            world.set(World.TROLLS, troll + 1);
            world.setTroll(troll, World.POST, NONE);
            return verdict.done(troll);
        }

        Verdict addGoat(int land, int coins) {
            if (!isLand(land)) {
                return verdict.noSuch();
            }
            if (!isWithin(coins, 0, MOST_COINS)) {
                return verdict.outOfRange();
            }
            int goat = world.of(World.GOATS);
            if (goat >= MOST_GOATS) {
                return verdict.refused(Refusal.FULL, MOST_GOATS);
            }
            world.set(World.GOATS, goat + 1);
            world.set(World.BROUGHT, world.of(World.BROUGHT) + coins);
            world.setGoat(goat, World.LAND, land);
            world.setGoat(goat, World.PURSE, coins);
            return verdict.done(goat);
        }

        Verdict postTroll(int troll, int bridge) {
            if (!world.isTroll(troll) || !world.isBridge(bridge)) {
                return verdict.noSuch();
            }
            int before = world.ofTroll(troll, World.POST);
            if (before == bridge) {
                return verdict.refused(Refusal.ALREADY, bridge);
            }
            if (before != NONE && world.isDisputed(before)) {
                return verdict.refused(Refusal.DISPUTED, world.ofBridge(before, World.DISPUTER));
            }
            if (world.isCounted(bridge)) {
                return verdict.refused(Refusal.ANOTHER_COUNTS, world.ofBridge(bridge, World.COUNTER));
            }
            if (before != NONE) {
                world.setBridge(before, World.COUNTER, NONE);
            }
            world.setTroll(troll, World.POST, bridge);
            world.setBridge(bridge, World.COUNTER, troll);
            return verdict.done(before);
        }

        Verdict leaveBridge(int troll) {
            if (!world.isTroll(troll)) {
                return verdict.noSuch();
            }
            int bridge = world.ofTroll(troll, World.POST);
            if (bridge == NONE) {
                return verdict.refused(Refusal.NOT_COUNTED, troll);
            }
            if (world.isDisputed(bridge)) {
                return verdict.refused(Refusal.DISPUTED, world.ofBridge(bridge, World.DISPUTER));
            }
            world.setTroll(troll, World.POST, NONE);
            world.setBridge(bridge, World.COUNTER, NONE);
            return verdict.done(bridge);
        }

        Verdict giveRiddle(int troll, int difficulty, int hours) {
            if (!world.isTroll(troll)) {
                return verdict.noSuch();
            }
            if (!isWithin(difficulty, 1, 9) || !isWithin(hours, 1, MOST_HOURS)) {
                return verdict.outOfRange();
            }
            int hoursYet = world.riddleHours(troll);
            if (hoursYet > 0) {
                return verdict.refused(Refusal.RIDDLE_HOLDS, hoursYet);
            }
            int expires = world.of(World.HOUR) + hours;
            world.setTroll(troll, World.DIFFICULTY, difficulty);
            world.setTroll(troll, World.EXPIRES, expires);
            return verdict.done(expires);
        }

        Verdict layFog(int bridge, int hours) {
            if (!world.isBridge(bridge)) {
                return verdict.noSuch();
            }
            if (!isWithin(hours, 0, MOST_HOURS)) {
                return verdict.outOfRange();
            }
            int lifts = world.of(World.HOUR) + hours;
            boolean isSo = hours == 0
                    ? !world.isInFog(bridge)
                    : world.ofBridge(bridge, World.LIFTS) == lifts;
            if (isSo) {
                return verdict.refused(Refusal.ALREADY, hours);
            }
            world.setBridge(bridge, World.LIFTS, lifts);
            return verdict.done(lifts);
        }

        Verdict changeToll(int bridge, int toll) {
            if (!world.isBridge(bridge)) {
                return verdict.noSuch();
            }
            if (!isWithin(toll, 0, 9)) {
                return verdict.outOfRange();
            }
            int before = world.ofBridge(bridge, World.TOLL);
            if (before == toll) {
                return verdict.refused(Refusal.ALREADY, toll);
            }
            if (world.isDisputed(bridge)) {
                return verdict.refused(Refusal.DISPUTED, world.ofBridge(bridge, World.DISPUTER));
            }
            world.setBridge(bridge, World.TOLL, toll);
            return verdict.done(before);
        }

        Verdict crossBridge(int goat, int bridge) {
            if (!world.isGoat(goat) || !world.isBridge(bridge)) {
                return verdict.noSuch();
            }
            if (world.ofGoat(goat, World.STRIKES) == 1) {
                return verdict.refused(Refusal.ON_STRIKE, goat);
            }
            int land = world.ofGoat(goat, World.LAND);
            int across = world.across(bridge, land);
            if (across == NONE) {
                return verdict.refused(Refusal.LEADS_ELSEWHERE, land);
            }
            int toll = world.tollDue(bridge);
            int lacking = toll - world.ofGoat(goat, World.PURSE);
            if (lacking > 0) {
                return verdict.refused(Refusal.TOO_FEW_COINS, lacking);
            }
            payToll(goat, bridge, toll);
            int hours = world.hoursOver(bridge);
            addToGoat(goat, World.WALKED, hours);
            addToGoat(goat, World.CROSSINGS, 1);
            addToBridge(bridge, World.CROSSED, 1);
            world.setGoat(goat, World.LAND, across);
            return verdict.done(hours);
        }

        private void payToll(int goat, int bridge, int toll) {
            addToGoat(goat, World.PURSE, -toll);
            if (world.isDisputed(bridge)) {
                addToBridge(bridge, World.PAID + goat, toll);
            } else if (world.isCounted(bridge)) {
                addToTroll(world.ofBridge(bridge, World.COUNTER), World.EARNED, toll);
            }
        }

        Verdict disputeToll(int goat, int bridge) {
            if (!world.isGoat(goat) || !world.isBridge(bridge)) {
                return verdict.noSuch();
            }
            if (!world.isCounted(bridge)) {
                return verdict.refused(Refusal.NOT_COUNTED, bridge);
            }
            if (world.isDisputed(bridge)) {
                return verdict.refused(Refusal.DISPUTED, world.ofBridge(bridge, World.DISPUTER));
            }
            world.setBridge(bridge, World.DISPUTER, goat);
            return verdict.done(world.countDisputes());
        }

        Verdict settleDispute(int bridge, boolean isForTroll) {
            if (!world.isBridge(bridge)) {
                return verdict.noSuch();
            }
            if (!world.isDisputed(bridge)) {
                return verdict.refused(Refusal.NOT_DISPUTED, bridge);
            }
            int coins = world.coinsInChest(bridge);
            if (isForTroll) {
                addToTroll(world.ofBridge(bridge, World.COUNTER), World.EARNED, coins);
            }
            emptyChest(bridge, !isForTroll);
            world.setBridge(bridge, World.DISPUTER, NONE);
            return verdict.done(coins);
        }

        private void emptyChest(int bridge, boolean areCoinsGivenBack) {
            for (int goat = 0; goat < world.of(World.GOATS); goat++) {
                if (areCoinsGivenBack) {
                    addToGoat(goat, World.PURSE, world.ofBridge(bridge, World.PAID + goat));
                }
                world.setBridge(bridge, World.PAID + goat, 0);
            }
        }

        Verdict changeStrike(int goat, boolean isOn) {
            if (!world.isGoat(goat)) {
                return verdict.noSuch();
            }
            int told = isOn ? 1 : 0;
            if (world.ofGoat(goat, World.STRIKES) == told) {
                return verdict.refused(Refusal.ALREADY, told);
            }
            world.setGoat(goat, World.STRIKES, told);
            return verdict.done(world.sumOfGoats(World.STRIKES));
        }

        Verdict passHours(int hours) {
            if (!isWithin(hours, 1, MOST_HOURS)) {
                return verdict.outOfRange();
            }
            int expiring = world.countRiddles(hours);
            world.set(World.HOUR, world.of(World.HOUR) + hours);
            return verdict.done(expiring);
        }

        /** Carries out one of the commands that were read. */
        Verdict carryOut(Commands commands, int command) {
            int first = commands.number(command, 0);
            int second = commands.number(command, 1);
            int third = commands.number(command, 2);
            switch (commands.kindOf(command)) {
                case Commands.BRIDGE: return addBridge(first, second, third, commands.number(command, 3));
                case Commands.TROLL: return addTroll();
                case Commands.GOAT: return addGoat(first, second);
                case Commands.POST: return postTroll(first, second);
                case Commands.CROSS: return crossBridge(first, second);
                case Commands.DISPUTE: return disputeToll(first, second);
                case Commands.LEAVE: return leaveBridge(first);
                case Commands.STRIKE: return changeStrike(first, true);
                case Commands.WORK: return changeStrike(first, false);
                case Commands.RIDDLE: return giveRiddle(first, second, third);
                case Commands.FOG: return layFog(first, second);
                case Commands.SETTLE: return settleDispute(first, second == 1);
                case Commands.PASS: return passHours(first);
                default: return verdict.noSuch();
            }
        }

        private void addToBridge(int bridge, int what, int number) {
            world.setBridge(bridge, what, world.ofBridge(bridge, what) + number);
        }

        private void addToTroll(int troll, int what, int number) {
            world.setTroll(troll, what, world.ofTroll(troll, what) + number);
        }

        private void addToGoat(int goat, int what, int number) {
            world.setGoat(goat, what, world.ofGoat(goat, what) + number);
        }
    }

    /** The cheapest or the fastest ways, by the lengths of the bridges that were measured last. */
    private static final class Ways {
        /** Longer than every way: five bridges of 9 * 2 + 9 hours each. */
        private static final int FAR = 1000;

        private final World world;
        private final Row lengths = new Row(MOST_BRIDGES);
        private final Row reached = new Row(LANDS);
        private final Row reachedAgain = new Row(LANDS);
        private final Row areLeft = new Row(LANDS);
        private final Row hangers = new Row(LANDS);

        Ways(World world) {
            this.world = world;
        }

        /** Takes as lengths the hours that bridges take, or else the tolls that are due. */
        void measure(boolean areHours) {
            for (int bridge = 0; bridge < world.of(World.BRIDGES); bridge++) {
                lengths.put(bridge, areHours ? world.hoursOver(bridge) : world.tollDue(bridge));
            }
        }

        /** The length of the shortest way, NONE if there is none. */
        int landByLand(int from, int to) {
            reachByLands(from);
            return reached.at(to) == FAR ? NONE : reached.at(to);
        }

        /** The same by a second way. */
        int bridgeByBridge(int from, int to) {
            reachByBridges(from);
            return reachedAgain.at(to) == FAR ? NONE : reachedAgain.at(to);
        }

        boolean areAlike(boolean areHours) {
            measure(areHours);
            for (int from = 0; from < LANDS; from++) {
                reachByLands(from);
                reachByBridges(from);
                for (int to = 0; to < LANDS; to++) {
                    if (reached.at(to) != reachedAgain.at(to)) {
                        return false;
                    }
                }
            }
            return true;
        }

        private void reachByLands(int from) {
            reached.fill(FAR);
            reached.put(from, 0);
            areLeft.fill(0);
            for (int round = 0; round < LANDS; round++) {
                int land = nearestToLeave();
                if (land == NONE) {
                    return;
                }
                areLeft.put(land, 1);
                for (int bridge = 0; bridge < world.of(World.BRIDGES); bridge++) {
                    shorten(reached, land, world.across(bridge, land), lengths.at(bridge));
                }
            }
        }

        private int nearestToLeave() {
            int nearest = NONE;
            int least = FAR;
            for (int land = 0; land < LANDS; land++) {
                if (areLeft.at(land) == 0 && reached.at(land) < least) {
                    nearest = land;
                    least = reached.at(land);
                }
            }
            return nearest;
        }

        private void reachByBridges(int from) {
            reachedAgain.fill(FAR);
            reachedAgain.put(from, 0);
            boolean isShorter = true;
            for (int round = 0; round < LANDS && isShorter; round++) {
                isShorter = false;
                for (int bridge = 0; bridge < world.of(World.BRIDGES); bridge++) {
                    int one = world.ofBridge(bridge, World.ONE);
                    int other = world.ofBridge(bridge, World.OTHER);
                    boolean isThere = shorten(reachedAgain, one, other, lengths.at(bridge));
                    boolean isBack = shorten(reachedAgain, other, one, lengths.at(bridge));
                    isShorter = isShorter || isThere || isBack;
                }
            }
        }

        /** Reaches a land over a bridge if that is shorter; tells whether it is. */
        private static boolean shorten(Row reached, int land, int across, int length) {
            int sum = reached.at(land) + length;
            if (across == NONE || sum >= reached.at(across)) {
                return false;
            }
            reached.put(across, sum);
            return true;
        }

        /**
         * The land on which a land hangs, by the ways that were reached by lands last. As each bridge takes an hour
         * at least, no land is found for the one from which they go, nor for one to which no way leads.
         */
        int hanger(int land) {
            for (int lower = 0; lower < LANDS; lower++) {
                if (leadsFastest(lower, land)) {
                    return lower;
                }
            }
            return NONE;
        }

        private boolean leadsFastest(int from, int land) {
            for (int bridge = 0; bridge < world.of(World.BRIDGES); bridge++) {
                boolean isOnTime = reached.at(from) + lengths.at(bridge) == reached.at(land);
                if (isOnTime && world.across(bridge, from) == land) {
                    return true;
                }
            }
            return false;
        }

        /** Keeps for all lands on which land they hang, by the ways from a land. */
        void hangAll(int from) {
            reachByLands(from);
            for (int land = 0; land < LANDS; land++) {
                hangers.put(land, hanger(land));
            }
        }

        int hangerKept(int land) {
            return hangers.at(land);
        }
    }

    /** The world before each of the latest changes, in a ring, and one that is prepared. */
    private static final class History {
        private static final int MOST = 8;

        private final Row worlds = new Row((MOST + 1) * World.CELLS);
        private int prepared = 0;
        private int count = 0;

        int count() {
            return count;
        }

        void prepare(World world) {
            world.storeIn(worlds, prepared * World.CELLS);
        }

        void takeBack(World world) {
            world.loadFrom(worlds, prepared * World.CELLS);
        }

        void keepPrepared() {
            prepared = prepared == MOST ? 0 : prepared + 1;
            count = Math.min(count + 1, MOST);
        }

        void stepBack(World world) {
            prepared = prepared == 0 ? MOST : prepared - 1;
            count = Math.max(count - 1, 0);
            takeBack(world);
        }

        void forget() {
            count = 0;
        }
    }

    /** Reads a text as commands; keeps their kinds and numbers, or where it is malformed. */
    private static final class Commands {
        static final int BRIDGE = 0;
        static final int TROLL = 1;
        static final int GOAT = 2;
        static final int POST = 3;
        static final int CROSS = 4;
        static final int DISPUTE = 5;
        static final int LEAVE = 6;
        static final int STRIKE = 7;
        static final int WORK = 8;
        static final int RIDDLE = 9;
        static final int FOG = 10;
        static final int SETTLE = 11;
        static final int PASS = 12;
        private static final int KINDS = 13;

        // the signs of a form that stand for others; another digit stands for one digit
        private static final char NUMBER = '9';
        private static final char PLUS_OR_MINUS = '+';

        /** An eleventh command cannot begin before the end of 60 characters. */
        private static final int MOST = 11;
        private static final int MOST_NUMBERS = 4;

        private final Line text;
        private final Row kinds = new Row(MOST);
        private final Row numbers = new Row(MOST * MOST_NUMBERS);
        private int count = 0;
        /** Where the next command begins, or what is behind the latest. */
        private int at = 0;
        private int errorAt = 0;

        Commands(Line text) {
            this.text = text;
        }

        int count() {
            return count;
        }

        int errorAt() {
            return errorAt;
        }

        int kindOf(int command) {
            return kinds.at(command);
        }

        int number(int command, int place) {
            return numbers.at(command * MOST_NUMBERS + place);
        }

        /** Tells whether the text has the form of commands. */
        boolean parse() {
            count = 0;
            at = 0;
            while (count < MOST && parseCommand()) {
                count++;
                if (at == text.length()) {
                    return true;
                }
                errorAt = at;
                if (text.signAt(at) != ';') {
                    return false;
                }
                at++;
            }
            return false;
        }

        private boolean parseCommand() {
            errorAt = at;
            for (int kind = 0; kind < KINDS; kind++) {
                if (matches(formOf(kind))) {
                    kinds.put(count, kind);
                    return true;
                }
            }
            return false;
        }

        /** Whatever form goes the furthest tells where the text goes wrong. */
        private boolean matches(String form) {
            int index = at;
            int place = count * MOST_NUMBERS;
            for (int step = 0; step < form.length(); step++) {
                char wanted = form.charAt(step);
                if (!fits(wanted, text.signAt(index))) {
                    errorAt = Math.max(errorAt, index);
                    return false;
                }
                int width = wanted == NUMBER && isDigit(text.signAt(index + 1)) ? 2 : 1;
                if (wanted == PLUS_OR_MINUS || isDigit(wanted)) {
                    numbers.put(place, valueAt(index, width));
                    place++;
                }
                index += width;
            }
            at = index;
            return true;
        }

        /** The number of one or two digits at an index, or 1 for a plus and 0 for a minus. */
        private int valueAt(int index, int width) {
            char sign = text.signAt(index);
            if (!isDigit(sign)) {
                return sign == '+' ? 1 : 0;
            }
            return width == 2 ? 10 * (sign - '0') + text.signAt(index + 1) - '0' : sign - '0';
        }

        private static boolean fits(char wanted, char sign) {
            if (isDigit(wanted)) {
                return isDigit(sign);
            }
            return wanted == PLUS_OR_MINUS ? sign == '+' || sign == '-' : sign == wanted;
        }

        private static boolean isDigit(char sign) {
            return sign >= '0' && sign <= '9';
        }

        private static String formOf(int kind) {
            switch (kind) {
                case BRIDGE: return "bridge 0 0 0 0";
                case TROLL: return "troll";
                case GOAT: return "goat 0 9";
                case POST: return "post 0 0";
                case CROSS: return "cross 0 0";
                case DISPUTE: return "dispute 0 0";
                case LEAVE: return "leave 0";
                case STRIKE: return "strike 0";
                case WORK: return "work 0";
                case RIDDLE: return "riddle 0 0 9";
                case FOG: return "fog 0 9";
                case SETTLE: return "settle 0+";
                default: return "pass 9";
            }
        }
    }
}
