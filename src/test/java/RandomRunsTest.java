import java.util.ArrayList;
import java.util.Arrays;
import java.util.HashSet;
import java.util.List;
import java.util.Random;
import java.util.Set;
import java.util.regex.Matcher;
import java.util.regex.Pattern;

/**
 * Runs of random calls, the same ones each time. What is asked about them holds by the document's words:
 * ways by a third reckoning, orders by sorting, commands by calls, error positions by a pattern.
 * Each state is built anew on an object of its own, as nothing is promised after 512 calls.
 */
public final class RandomRunsTest {
    private static final int RUNS = 400;
    private static final int CALLS = 45;
    private static final int FAR = 100000;
    private static final String COMMAND = "(?:bridge [0-9] [0-9] [0-9] [0-9]|troll|goat [0-9] [0-9]{1,2}"
            + "|(?:post |cross |dispute )[0-9] [0-9]|(?:leave |strike |work )[0-9]"
            + "|riddle [0-9] [0-9] [0-9]{1,2}|fog [0-9] [0-9]{1,2}|settle [0-9][+-]|pass [0-9]{1,2})";
    private static final Pattern TEXT = Pattern.compile(COMMAND + "(?:;" + COMMAND + ")*");
    private static final String[] WORDS = {"bridge ", "troll", "goat ", "post ", "cross ", "dispute ", "leave ",
        "strike ", "work ", "riddle ", "fog ", "settle ", "pass "};

    private RandomRunsTest() {
    }

    public static void main(String[] args) {
        for (int seed = 0; seed < RUNS; seed++) {
            Random random = new Random(seed);
            List<int[]> calls = randomCalls(random);
            checkRun(seed, calls);
            checkAnswers("run " + seed, replay(calls, calls.size()));
            checkOrders("run " + seed, replay(calls, calls.size()));
            checkWays("run " + seed, replay(calls, calls.size()));
            checkHanging("run " + seed, replay(calls, calls.size()));
            checkCommands("run " + seed, calls, random);
        }
        Random random = new Random(4711);
        for (int text = 0; text < 20000; text++) {
            checkErrorPosition(randomText(random));
        }
        Check.finish("RandomRunsTest");
    }

    // ---- runs

    /** Begins with bridges, trolls and goats, so that most calls have something to do. */
    private static List<int[]> randomCalls(Random random) {
        List<int[]> calls = new ArrayList<>();
        for (int call = 0; call < CALLS; call++) {
            int kind = call < 12 ? call % 4 : random.nextInt(15);
            int first = random.nextInt(10) == 0 ? random.nextInt(9) - 1 : random.nextInt(4);
            int second = random.nextInt(10) == 0 ? random.nextInt(12) - 1 : random.nextInt(5);
            int third = random.nextInt(12) == 0 ? random.nextInt(60) - 5 : 1 + random.nextInt(9);
            int fourth = random.nextInt(12) == 0 ? random.nextInt(110) - 5 : random.nextInt(10);
            calls.add(new int[] {kind, first, second, third, fourth});
        }
        return calls;
    }

    private static int answer(TrollBridges x, int[] call) {
        switch (call[0]) {
            case 0: return x.bridge(call[1], call[2], call[3], call[4]);
            case 1: return x.troll();
            case 2: return x.goat(call[1], 7 * call[4]);
            case 3: return x.post(call[1], call[2]);
            case 4: return x.leave(call[1]);
            case 5: return x.riddle(call[1], call[4], call[3]);
            case 6: return x.fog(call[2], call[3] - 1);
            case 7: return x.price(call[2], call[4]);
            case 8:
            case 9:
            case 10: return x.cross(call[1], call[2]);
            case 11: return x.dispute(call[1], call[2]);
            case 12: return x.settle(call[2], call[4] < 5);
            case 13: return x.strike(call[1], call[4] < 5);
            default: return x.pass(call[3]);
        }
    }

    private static final Set<Class<?>> DOCUMENTED = Set.of(IndexOutOfBoundsException.class,
            IllegalArgumentException.class, UnsupportedOperationException.class);

    private static boolean isDone(TrollBridges x, int[] call) {
        try {
            answer(x, call);
            return true;
        } catch (RuntimeException thrown) {
            Check.yes("an exception of the document: " + thrown, DOCUMENTED.contains(thrown.getClass()));
            return false;
        }
    }

    private static TrollBridges replay(List<int[]> calls, int count) {
        TrollBridges x = new TrollBridges();
        for (int call = 0; call < count; call++) {
            isDone(x, calls.get(call));
        }
        return x;
    }

    /** What fails changes nothing, what is done can be undone, the latest eight of them. */
    private static void checkRun(int seed, List<int[]> calls) {
        TrollBridges x = new TrollBridges();
        List<String> past = new ArrayList<>();
        String now = Check.dump(new TrollBridges());
        for (int call = 0; call < calls.size(); call++) {
            boolean isDone = isDone(x, calls.get(call));
            String then = Check.dump(replay(calls, call + 1));
            if (isDone) {
                past.add(now);
            } else {
                Check.same("run " + seed + ", call " + call + ": fails and changes nothing", now, then);
            }
            Check.same("run " + seed + ": changes", Math.min(past.size(), 8), x.account(14));
            now = then;
        }
        for (int count = 1; count <= Math.min(past.size(), 8); count++) {
            TrollBridges back = replay(calls, calls.size());
            for (int undone = 0; undone < count; undone++) {
                back.undo();
            }
            Check.same("run " + seed + ": undone " + count, past.get(past.size() - count), Check.dump(back));
        }
    }

    // ---- what is told about a state

    private static void checkAnswers(String what, TrollBridges x) {
        int tolls = 0;
        int tollsSeen = 0;
        int counted = 0;
        int chests = 0;
        int crossed = 0;
        for (int bridge = 0; bridge < x.account(0); bridge++) {
            int troll = x.bridgeOf(bridge, 4);
            boolean isFog = x.bridgeOf(bridge, 5) == 1;
            tolls += x.bridgeOf(bridge, 3);
            tollsSeen += isFog ? 0 : x.bridgeOf(bridge, 3);
            counted += troll >= 0 ? 1 : 0;
            chests += x.bridgeOf(bridge, 7);
            crossed += x.bridgeOf(bridge, 8);
            int due = troll >= 0 && !x.isGeneral() ? x.bridgeOf(bridge, 3) : 0;
            int riddle = troll >= 0 ? x.trollOf(troll, 2) : 0;
            Check.same(what + ": due", due, x.due(bridge));
            Check.same(what + ": takes", x.bridgeOf(bridge, 2) * (isFog ? 2 : 1) + riddle, x.takes(bridge));
            Check.same(what + ": troll's bridge", bridge, troll >= 0 ? x.trollOf(troll, 0) : bridge);
            Check.yes(what + ": disputed only if counted", troll >= 0 || x.bridgeOf(bridge, 6) == -1);
        }
        Check.same(what + ": sum", tolls, x.sum(true));
        Check.same(what + ": sum without fog", tollsSeen, x.sum(false));
        Check.same(what + ": counted", counted, x.counted());
        Check.same(what + ": counted again", counted, x.countedAgain());
        Check.same(what + ": chests", chests, x.account(11));
        Check.same(what + ": crossings", crossed, x.account(12));
        Check.same(what + ": coins", x.account(8), x.account(9) + x.account(10) + x.account(11));
        Check.yes(what + ": general strike", x.isGeneral() == 2 * x.account(4) > x.account(2));
        Check.yes(what + ": well", x.isWell());
    }

    private static void checkOrders(String what, TrollBridges x) {
        List<long[]> trolls = new ArrayList<>();
        for (int troll = 0; troll < x.account(1); troll++) {
            int bridge = x.trollOf(troll, 0);
            trolls.add(new long[] {-x.trollOf(troll, 1), bridge < 0 ? 0 : -x.bridgeOf(bridge, 8), troll});
        }
        trolls.sort(Arrays::compare);
        for (int place = 0; place < trolls.size(); place++) {
            Check.same(what + ": richest " + place, trolls.get(place)[2], x.richest(place));
        }
        Check.noElement(what + ": richest", () -> x.richest(trolls.size()));
        List<long[]> goats = new ArrayList<>();
        for (int goat = 0; goat < x.account(2); goat++) {
            goats.add(new long[] {-x.goatOf(goat, 3), -x.goatOf(goat, 1), goat});
        }
        goats.sort(Arrays::compare);
        for (int place = 0; place < goats.size(); place++) {
            Check.same(what + ": tired " + place, goats.get(place)[2], x.tired(place));
        }
        Check.noElement(what + ": tired", () -> x.tired(goats.size()));
    }

    private static int[][] shortest(TrollBridges x, boolean areHours) {
        int[][] way = new int[6][6];
        for (int[] row : way) {
            Arrays.fill(row, FAR);
        }
        for (int land = 0; land < 6; land++) {
            way[land][land] = 0;
        }
        for (int bridge = 0; bridge < x.account(0); bridge++) {
            int one = x.bridgeOf(bridge, 0);
            int other = x.bridgeOf(bridge, 1);
            int length = areHours ? x.takes(bridge) : x.due(bridge);
            way[one][other] = Math.min(way[one][other], length);
            way[other][one] = way[one][other];
        }
        for (int by = 0; by < 6; by++) {
            for (int from = 0; from < 6; from++) {
                for (int to = 0; to < 6; to++) {
                    way[from][to] = Math.min(way[from][to], way[from][by] + way[by][to]);
                }
            }
        }
        return way;
    }

    private static void checkWays(String what, TrollBridges x) {
        int[][] costs = shortest(x, false);
        int[][] hours = shortest(x, true);
        for (int index = 0; index < 36; index++) {
            int from = index / 6;
            int to = index % 6;
            if (hours[from][to] == FAR) {
                Check.noElement(what + ": cheapest", () -> x.cheapest(from, to));
                Check.noElement(what + ": cheapestAgain", () -> x.cheapestAgain(from, to));
                Check.noElement(what + ": fastest", () -> x.fastest(from, to));
                Check.noElement(what + ": fastestAgain", () -> x.fastestAgain(from, to));
            } else {
                Check.same(what + ": cheapest", costs[from][to], x.cheapest(from, to));
                Check.same(what + ": cheapestAgain", costs[from][to], x.cheapestAgain(from, to));
                Check.same(what + ": fastest", hours[from][to], x.fastest(from, to));
                Check.same(what + ": fastestAgain", hours[from][to], x.fastestAgain(from, to));
            }
        }
    }

    private static void checkHanging(String what, TrollBridges x) {
        int[][] hours = shortest(x, true);
        for (int from = 0; from < 6; from++) {
            int[] hangers = new int[6];
            Arrays.fill(hangers, 6);
            for (int bridge = 0; bridge < x.account(0); bridge++) {
                int[] ends = {x.bridgeOf(bridge, 0), x.bridgeOf(bridge, 1)};
                for (int side = 0; side < 2; side++) {
                    int land = ends[side];
                    int before = ends[1 - side];
                    if (hours[from][before] + x.takes(bridge) == hours[from][land]) {
                        hangers[land] = Math.min(hangers[land], before);
                    }
                }
            }
            hangers[from] = -1;
            for (int land = 0; land < 6; land++) {
                checkHanger(what, x, new int[] {from, land, hangers[land]});
            }
            String want = written(hangers, from);
            int length = x.show(from);
            Check.same(what + ": show's length", want.length(), length);
            StringBuilder got = new StringBuilder();
            for (int index = 0; index < length; index++) {
                got.append(x.written(index));
            }
            Check.same(what + ": show", want, got.toString());
        }
    }

    private static void checkHanger(String what, TrollBridges x, int[] way) {
        if (way[2] == 6) {
            Check.noElement(what + ": hangs on none", () -> x.hangs(way[0], way[1]));
        } else {
            Check.same(what + ": hangs", way[2], x.hangs(way[0], way[1]));
        }
    }

    private static String written(int[] hangers, int land) {
        List<String> hanging = new ArrayList<>();
        for (int each = 0; each < 6; each++) {
            if (hangers[each] == land) {
                hanging.add(written(hangers, each));
            }
        }
        return land + (hanging.isEmpty() ? "" : "(" + String.join(" ", hanging) + ")");
    }

    // ---- commands

    /** A text does what its commands do as calls, or nothing and tells which of them fails, and why. */
    private static void checkCommands(String what, List<int[]> calls, Random random) {
        List<String> commands = new ArrayList<>();
        int length = 0;
        for (int count = 1 + random.nextInt(8); count > 0; count--) {
            String command = randomCommand(random);
            length += command.length() + 1;
            if (length <= 61) {
                commands.add(command);
            }
        }
        TrollBridges before = replay(calls, calls.size());
        TrollBridges direct = replay(calls, calls.size());
        TrollBridges x = replay(calls, calls.size());
        int done = 0;
        boolean isRefused = false;
        while (done < commands.size() && !isRefused) {
            try {
                carryOut(direct, commands.get(done));
                done++;
            } catch (UnsupportedOperationException refused) {
                isRefused = true;
            } catch (IllegalArgumentException | IndexOutOfBoundsException wrong) {
                break;
            }
        }
        String text = what + ": " + String.join(";", commands);
        Check.type(x, String.join(";", commands));
        if (done == commands.size()) {
            Check.same(text, commands.size(), x.read());
            Check.same(text + ": state", Check.dump(direct), Check.dump(x));
            x.undo();
        } else {
            Check.throwing(text, UnsupportedOperationException.class, () -> x.read());
            Check.same(text + ": reason", 12, x.refusal(false, false));
            Check.same(text + ": command", done, x.refusal(false, true));
            if (isRefused) {
                Check.same(text + ": cause", direct.refusal(false, false), x.refusal(true, false));
                Check.same(text + ": its detail", direct.refusal(false, true), x.refusal(true, true));
            } else {
                Check.noElement(text + ": no cause", () -> x.refusal(true, false));
            }
            Check.same(text + ": changes", before.account(14), x.account(14));
        }
        Check.same(text + ": as before", Check.dump(before), Check.dump(x));
    }

    private static String randomCommand(Random random) {
        int first = random.nextInt(random.nextInt(6) == 0 ? 10 : 4);
        int second = random.nextInt(random.nextInt(6) == 0 ? 10 : 4);
        int third = random.nextInt(random.nextInt(6) == 0 ? 100 : 10);
        String word = WORDS[random.nextInt(WORDS.length)];
        switch (word) {
            case "bridge ": return word + first + " " + second + " " + third % 10 + " " + random.nextInt(10);
            case "troll": return word;
            case "goat ":
            case "fog ": return word + first + " " + third;
            case "post ":
            case "cross ":
            case "dispute ": return word + first + " " + second;
            case "riddle ": return word + first + " " + second + " " + third;
            case "settle ": return word + first + (third % 2 == 0 ? "+" : "-");
            case "pass ": return word + third;
            default: return word + first;
        }
    }

    private static void carryOut(TrollBridges x, String command) {
        String[] parts = command.split("[ ]");
        int[] numbers = new int[5];
        for (int part = 1; part < parts.length; part++) {
            numbers[part] = Integer.parseInt(parts[part].replaceAll("[+-]", ""));
        }
        switch (parts[0]) {
            case "bridge": x.bridge(numbers[1], numbers[2], numbers[3], numbers[4]); break;
            case "troll": x.troll(); break;
            case "goat": x.goat(numbers[1], numbers[2]); break;
            case "post": x.post(numbers[1], numbers[2]); break;
            case "cross": x.cross(numbers[1], numbers[2]); break;
            case "dispute": x.dispute(numbers[1], numbers[2]); break;
            case "leave": x.leave(numbers[1]); break;
            case "strike": x.strike(numbers[1], true); break;
            case "work": x.strike(numbers[1], false); break;
            case "riddle": x.riddle(numbers[1], numbers[2], numbers[3]); break;
            case "fog": x.fog(numbers[1], numbers[2]); break;
            case "settle": x.settle(numbers[1], parts[1].endsWith("+")); break;
            case "pass": x.pass(numbers[1]); break;
            default: throw new IllegalStateException(command);
        }
    }

    /** Commands with a sign changed, lost or put in, and cut off somewhere. */
    private static String randomText(Random random) {
        StringBuilder text = new StringBuilder(randomCommand(random));
        while (random.nextInt(3) != 0) {
            text.append(';').append(randomCommand(random));
        }
        String signs = "0123456789 ;+-abcdefghiklmnoprstuw";
        for (int changes = random.nextInt(3); changes > 0 && text.length() > 0; changes--) {
            int at = random.nextInt(text.length());
            char sign = signs.charAt(random.nextInt(signs.length()));
            switch (random.nextInt(4)) {
                case 0: text.setCharAt(at, sign); break;
                case 1: text.insert(at, sign); break;
                case 2: text.deleteCharAt(at); break;
                default: text.setLength(at);
            }
        }
        text.setLength(Math.min(text.length(), 60));
        return text.toString();
    }

    private static void checkErrorPosition(String text) {
        TrollBridges x = new TrollBridges();
        if (TEXT.matcher(text).matches()) {
            Set<Class<?>> answers = new HashSet<>();
            try {
                Check.read(x, text);
            } catch (RuntimeException thrown) {
                answers.add(thrown.getClass());
            }
            answers.remove(UnsupportedOperationException.class);
            Check.yes("well formed: " + text, answers.isEmpty());
            return;
        }
        int want = 0;
        while (want < text.length() && canGoOn(text.substring(0, want + 1))) {
            want++;
        }
        Check.badNumber("malformed: " + text, () -> Check.read(x, text));
        Check.same("error position of " + text, want, x.errorPosition());
    }

    private static boolean canGoOn(String beginning) {
        Matcher matcher = TEXT.matcher(beginning);
        return matcher.matches() || matcher.hitEnd();
    }
}
