import java.util.ArrayDeque;
import java.util.ArrayList;
import java.util.Comparator;
import java.util.Deque;
import java.util.List;
import java.util.NoSuchElementException;
import java.util.TreeSet;
import java.util.function.IntSupplier;
import java.util.function.ToIntFunction;
import java.util.regex.Matcher;
import java.util.regex.Pattern;
import java.util.stream.IntStream;

/**
 * The document told once more, as plainly as the Java library allows and by other means than the class: each method
 * has the name, the parameters and the answers that the face asks for, so that the two can be compared.
 */
final class Model {
    private static final class Bridge {
        int one, other, span, toll, lifts, crossed;
        int troll = -1;
        int disputer = -1;
        int[] paid = new int[5];

        Bridge copy() {
            Bridge copy = new Bridge();
            copy.one = one;
            copy.other = other;
            copy.span = span;
            copy.toll = toll;
            copy.lifts = lifts;
            copy.crossed = crossed;
            copy.troll = troll;
            copy.disputer = disputer;
            copy.paid = paid.clone();
            return copy;
        }

        int chest() {
            return IntStream.of(paid).sum();
        }
    }

    private static final class Troll {
        int bridge = -1;
        int coins, difficulty, expires;

        Troll copy() {
            Troll copy = new Troll();
            copy.bridge = bridge;
            copy.coins = coins;
            copy.difficulty = difficulty;
            copy.expires = expires;
            return copy;
        }
    }

    private static final class Goat {
        int land, coins, walked, crossings, brought;
        boolean isOnStrike;

        Goat copy() {
            Goat copy = new Goat();
            copy.land = land;
            copy.coins = coins;
            copy.walked = walked;
            copy.crossings = crossings;
            copy.brought = brought;
            copy.isOnStrike = isOnStrike;
            return copy;
        }
    }

    private static final class State {
        final List<Bridge> bridges = new ArrayList<>();
        final List<Troll> trolls = new ArrayList<>();
        final List<Goat> goats = new ArrayList<>();
        int hour;

        State copy() {
            State copy = new State();
            bridges.forEach(each -> copy.bridges.add(each.copy()));
            trolls.forEach(each -> copy.trolls.add(each.copy()));
            goats.forEach(each -> copy.goats.add(each.copy()));
            copy.hour = hour;
            return copy;
        }
    }

    /** A call that is refused, for a reason with its detail. */
    private static final class Refused extends RuntimeException {
        final int reason;
        final int detail;

        Refused(int reason, int detail) {
            this.reason = reason;
            this.detail = detail;
        }
    }

    private State now = new State();
    private State saved;
    private final Deque<State> past = new ArrayDeque<>();
    private String buffer = "";
    private String line = "";
    private Integer malformedAt;
    private int[] refusal = {};
    private int[] cause = {};

    // ---- changes

    int bridge(int one, int other, int span, int toll) {
        return change(() -> doBridge(one, other, span, toll));
    }

    int troll() {
        return change(this::doTroll);
    }

    int goat(int land, int coins) {
        return change(() -> doGoat(land, coins));
    }

    int post(int troll, int bridge) {
        return change(() -> doPost(troll, bridge));
    }

    int leave(int troll) {
        return change(() -> doLeave(troll));
    }

    int riddle(int troll, int difficulty, int hours) {
        return change(() -> doRiddle(troll, difficulty, hours));
    }

    int fog(int bridge, int hours) {
        return change(() -> doFog(bridge, hours));
    }

    int price(int bridge, int toll) {
        return change(() -> doPrice(bridge, toll));
    }

    int cross(int goat, int bridge) {
        return change(() -> doCross(goat, bridge));
    }

    int dispute(int goat, int bridge) {
        return change(() -> doDispute(goat, bridge));
    }

    int settle(int bridge, boolean isForTroll) {
        return change(() -> doSettle(bridge, isForTroll));
    }

    int strike(int goat, boolean isOn) {
        return change(() -> doStrike(goat, isOn));
    }

    int pass(int hours) {
        return change(() -> doPass(hours));
    }

    private int change(IntSupplier what) {
        State before = now.copy();
        try {
            int answer = what.getAsInt();
            keep(before);
            return answer;
        } catch (Refused refused) {
            now = before;
            refusal = new int[] {refused.reason, refused.detail};
            cause = new int[] {};
            throw new UnsupportedOperationException();
        } catch (RuntimeException thrown) {
            now = before;
            throw thrown;
        }
    }

    private void keep(State before) {
        past.addLast(before);
        if (past.size() > 8) {
            past.removeFirst();
        }
    }

    private int doBridge(int one, int other, int span, int toll) {
        index(one, 6);
        index(other, 6);
        range(span, 1, 9);
        range(toll, 0, 9);
        refuse(one == other, 2, one);
        refuse(now.bridges.size() == 10, 1, 10);
        Bridge bridge = new Bridge();
        bridge.one = one;
        bridge.other = other;
        bridge.span = span;
        bridge.toll = toll;
        now.bridges.add(bridge);
        return now.bridges.size() - 1;
    }

    private int doTroll() {
        refuse(now.trolls.size() == 6, 1, 6);
        now.trolls.add(new Troll());
        return now.trolls.size() - 1;
    }

    private int doGoat(int land, int coins) {
        index(land, 6);
        range(coins, 0, 99);
        refuse(now.goats.size() == 5, 1, 5);
        Goat goat = new Goat();
        goat.land = land;
        goat.coins = coins;
        goat.brought = coins;
        now.goats.add(goat);
        return now.goats.size() - 1;
    }

    private int doPost(int troll, int bridge) {
        Troll posted = trollAt(troll);
        Bridge at = bridgeAt(bridge);
        int before = posted.bridge;
        refuse(before == bridge, 3, bridge);
        if (before >= 0) {
            int disputer = bridgeAt(before).disputer;
            refuse(disputer >= 0, 10, disputer);
        }
        refuse(at.troll >= 0, 4, at.troll);
        if (before >= 0) {
            bridgeAt(before).troll = -1;
        }
        posted.bridge = bridge;
        at.troll = troll;
        return before;
    }

    private int doLeave(int troll) {
        Troll leaving = trollAt(troll);
        int bridge = leaving.bridge;
        refuse(bridge < 0, 9, troll);
        refuse(bridgeAt(bridge).disputer >= 0, 10, bridgeAt(bridge).disputer);
        bridgeAt(bridge).troll = -1;
        leaving.bridge = -1;
        return bridge;
    }

    private int doRiddle(int troll, int difficulty, int hours) {
        Troll asking = trollAt(troll);
        range(difficulty, 1, 9);
        range(hours, 1, 48);
        refuse(now.hour < asking.expires, 5, asking.expires - now.hour);
        asking.difficulty = difficulty;
        asking.expires = now.hour + hours;
        return asking.expires;
    }

    private int doFog(int bridge, int hours) {
        Bridge foggy = bridgeAt(bridge);
        range(hours, 0, 48);
        boolean isFog = now.hour < foggy.lifts;
        refuse(hours == 0 ? !isFog : isFog && foggy.lifts == now.hour + hours, 3, hours);
        foggy.lifts = now.hour + hours;
        return foggy.lifts;
    }

    private int doPrice(int bridge, int toll) {
        Bridge priced = bridgeAt(bridge);
        range(toll, 0, 9);
        refuse(priced.toll == toll, 3, toll);
        refuse(priced.disputer >= 0, 10, priced.disputer);
        int before = priced.toll;
        priced.toll = toll;
        return before;
    }

    private int doCross(int goat, int bridge) {
        Goat walker = goatAt(goat);
        Bridge way = bridgeAt(bridge);
        refuse(walker.isOnStrike, 6, goat);
        refuse(way.one != walker.land && way.other != walker.land, 7, walker.land);
        int toll = due(bridge);
        int hours = takes(bridge);
        refuse(toll > walker.coins, 8, toll - walker.coins);
        walker.coins -= toll;
        if (way.disputer >= 0) {
            way.paid[goat] += toll;
        } else if (toll > 0) {
            trollAt(way.troll).coins += toll;
        }
        walker.land = way.one + way.other - walker.land;
        walker.walked += hours;
        walker.crossings++;
        way.crossed++;
        return hours;
    }

    private int doDispute(int goat, int bridge) {
        goatAt(goat);
        Bridge about = bridgeAt(bridge);
        refuse(about.troll < 0, 9, bridge);
        refuse(about.disputer >= 0, 10, about.disputer);
        about.disputer = goat;
        return count(now.bridges, each -> each.disputer >= 0 ? 1 : 0);
    }

    private int doSettle(int bridge, boolean isForTroll) {
        Bridge about = bridgeAt(bridge);
        refuse(about.disputer < 0, 11, bridge);
        int coins = about.chest();
        if (isForTroll) {
            trollAt(about.troll).coins += coins;
        } else {
            for (int goat = 0; goat < now.goats.size(); goat++) {
                goatAt(goat).coins += about.paid[goat];
            }
        }
        about.paid = new int[5];
        about.disputer = -1;
        return coins;
    }

    private int doStrike(int goat, boolean isOn) {
        Goat striker = goatAt(goat);
        refuse(striker.isOnStrike == isOn, 3, isOn ? 1 : 0);
        striker.isOnStrike = isOn;
        return account(4);
    }

    private int doPass(int hours) {
        range(hours, 1, 48);
        int held = account(6);
        now.hour += hours;
        return held - account(6);
    }

    // ---- numbers of bridges, trolls, goats

    int bridgeOf(int bridge, int what) {
        Bridge asked = bridgeAt(bridge);
        range(what, 0, 8);
        return new int[] {asked.one, asked.other, asked.span, asked.toll, asked.troll, isFoggy(asked) ? 1 : 0,
            asked.disputer, asked.chest(), asked.crossed}[what];
    }

    int trollOf(int troll, int what) {
        Troll asked = trollAt(troll);
        range(what, 0, 3);
        return new int[] {asked.bridge, asked.coins, difficulty(asked), Math.max(asked.expires - now.hour, 0)}[what];
    }

    int goatOf(int goat, int what) {
        Goat asked = goatAt(goat);
        range(what, 0, 5);
        return new int[] {asked.land, asked.coins, asked.isOnStrike ? 1 : 0, asked.walked, asked.crossings,
            count(now.bridges, each -> each.paid[goat])}[what];
    }

    // ---- tolls, ways

    int due(int bridge) {
        Bridge asked = bridgeAt(bridge);
        return asked.troll >= 0 && !isGeneral() ? asked.toll : 0;
    }

    int takes(int bridge) {
        Bridge asked = bridgeAt(bridge);
        int riddle = asked.troll < 0 ? 0 : difficulty(trollAt(asked.troll));
        return asked.span * (isFoggy(asked) ? 2 : 1) + riddle;
    }

    int cheapest(int from, int to) {
        return way(from, to, this::due);
    }

    int cheapestAgain(int from, int to) {
        return way(from, to, this::due);
    }

    int fastest(int from, int to) {
        return way(from, to, this::takes);
    }

    int fastestAgain(int from, int to) {
        return way(from, to, this::takes);
    }

    int hangs(int from, int land) {
        int hours = fastest(from, land);
        if (from == land) {
            return -1;
        }
        TreeSet<Integer> befores = new TreeSet<>();
        for (int bridge = 0; bridge < now.bridges.size(); bridge++) {
            Bridge last = bridgeAt(bridge);
            if (last.one == land || last.other == land) {
                int before = last.one + last.other - land;
                if (fastest(from, before) + takes(bridge) == hours) {
                    befores.add(before);
                }
            }
        }
        return befores.first();
    }

    private int way(int from, int to, ToIntFunction<Integer> length) {
        index(from, 6);
        index(to, 6);
        int best = shortest(from, to, length, List.of(from));
        if (best == Integer.MAX_VALUE) {
            throw new NoSuchElementException();
        }
        return best;
    }

    /** Tries each way that comes to no land twice. */
    private int shortest(int from, int to, ToIntFunction<Integer> length, List<Integer> seen) {
        if (from == to) {
            return 0;
        }
        int best = Integer.MAX_VALUE;
        for (int bridge = 0; bridge < now.bridges.size(); bridge++) {
            Bridge over = bridgeAt(bridge);
            int land = over.one + over.other - from;
            if ((over.one == from || over.other == from) && !seen.contains(land)) {
                List<Integer> more = new ArrayList<>(seen);
                more.add(land);
                int rest = shortest(land, to, length, more);
                if (rest != Integer.MAX_VALUE) {
                    best = Math.min(best, rest + length.applyAsInt(bridge));
                }
            }
        }
        return best;
    }

    int sum(boolean areAll) {
        return count(now.bridges, each -> areAll || !isFoggy(each) ? each.toll : 0);
    }

    int counted() {
        return count(now.bridges, each -> each.troll >= 0 ? 1 : 0);
    }

    int countedAgain() {
        return counted();
    }

    boolean isGeneral() {
        return account(4) > now.goats.size() - account(4);
    }

    int richest(int place) {
        return ordered(now.trolls.size(), place, Comparator
                .comparingInt((Integer troll) -> -trollAt(troll).coins)
                .thenComparingInt(troll -> trollAt(troll).bridge < 0 ? 0 : -bridgeAt(trollAt(troll).bridge).crossed));
    }

    int tired(int place) {
        return ordered(now.goats.size(), place, Comparator
                .comparingInt((Integer goat) -> -goatAt(goat).walked)
                .thenComparingInt(goat -> -goatAt(goat).coins));
    }

    private static int ordered(int count, int place, Comparator<Integer> order) {
        List<Integer> all = new ArrayList<>();
        for (int each = 0; each < count; each++) {
            all.add(each);
        }
        element(place, count);
        all.sort(order);
        return all.get(place);
    }

    int next() {
        TreeSet<Integer> hours = new TreeSet<>();
        now.trolls.forEach(each -> hours.add(each.expires));
        now.bridges.forEach(each -> hours.add(each.lifts));
        Integer next = hours.higher(now.hour);
        if (next == null) {
            throw new NoSuchElementException();
        }
        return next;
    }

    /** Whatever is called, coins are neither made nor lost. */
    boolean isWell() {
        return true;
    }

    // ---- commands, lines

    int type(char character) {
        if (buffer.length() == 60) {
            throw new IllegalStateException();
        }
        buffer += character;
        return buffer.length();
    }

    private static final String COMMAND = "(?:bridge \\d \\d \\d \\d|troll|goat \\d \\d{1,2}"
            + "|(?:post|cross|dispute) \\d \\d|(?:leave|strike|work) \\d|riddle \\d \\d \\d{1,2}|fog \\d \\d{1,2}"
            + "|settle \\d[+-]|pass \\d{1,2})";
    private static final Pattern TEXT = Pattern.compile(COMMAND + "(?:;" + COMMAND + ")*");

    int read() {
        String text = buffer;
        buffer = "";
        if (!TEXT.matcher(text).matches()) {
            malformedAt = 0;
            while (malformedAt < text.length() && canGoOn(text.substring(0, malformedAt + 1))) {
                malformedAt++;
            }
            throw new IllegalArgumentException();
        }
        String[] commands = text.split(";");
        State before = now.copy();
        for (int command = 0; command < commands.length; command++) {
            int[] itsCause = causeOf(commands[command]);
            if (itsCause != null) {
                now = before;
                refusal = new int[] {12, command};
                cause = itsCause;
                throw new UnsupportedOperationException();
            }
        }
        keep(before);
        return commands.length;
    }

    private static boolean canGoOn(String beginning) {
        Matcher matcher = TEXT.matcher(beginning);
        return matcher.matches() || matcher.hitEnd();
    }

    /** Null if the command is done, nothing in it if its call would throw another exception. */
    private int[] causeOf(String command) {
        try {
            carryOut(command);
            return null;
        } catch (Refused refused) {
            return new int[] {refused.reason, refused.detail};
        } catch (IndexOutOfBoundsException | IllegalArgumentException thrown) {
            return new int[] {};
        }
    }

    private void carryOut(String command) {
        String[] words = command.replaceAll("[+-]", "").split(" ");
        int[] n = new int[5];
        for (int word = 1; word < words.length; word++) {
            n[word] = Integer.parseInt(words[word]);
        }
        switch (words[0]) {
            case "bridge" -> doBridge(n[1], n[2], n[3], n[4]);
            case "troll" -> doTroll();
            case "goat" -> doGoat(n[1], n[2]);
            case "post" -> doPost(n[1], n[2]);
            case "cross" -> doCross(n[1], n[2]);
            case "dispute" -> doDispute(n[1], n[2]);
            case "leave" -> doLeave(n[1]);
            case "strike" -> doStrike(n[1], true);
            case "work" -> doStrike(n[1], false);
            case "riddle" -> doRiddle(n[1], n[2], n[3]);
            case "fog" -> doFog(n[1], n[2]);
            case "settle" -> doSettle(n[1], command.endsWith("+"));
            default -> doPass(n[1]);
        }
    }

    int errorPosition() {
        if (malformedAt == null) {
            throw new NoSuchElementException();
        }
        return malformedAt;
    }

    int refusal(boolean isCause, boolean isDetail) {
        int[] told = isCause ? cause : refusal;
        if (told.length == 0) {
            throw new NoSuchElementException();
        }
        return told[isDetail ? 1 : 0];
    }

    int show(int from) {
        index(from, 6);
        line = hanging(from, from);
        return line.length();
    }

    private String hanging(int from, int land) {
        List<String> all = new ArrayList<>();
        for (int each = 0; each < 6; each++) {
            if (each != from && shortest(from, each, this::takes, List.of(from)) != Integer.MAX_VALUE
                    && hangs(from, each) == land) {
                all.add(hanging(from, each));
            }
        }
        return land + (all.isEmpty() ? "" : "(" + String.join(" ", all) + ")");
    }

    int tell(int bridge) {
        Bridge told = bridgeAt(bridge);
        line = bridge + ":" + told.one + told.other + "*" + told.span + "$" + told.toll
                + (told.troll < 0 ? "" : "t" + told.troll) + (isFoggy(told) ? "~" : "")
                + (told.disputer < 0 ? "" : "?");
        return line.length();
    }

    char written(int index) {
        element(index, line.length());
        return line.charAt(index);
    }

    // ---- accounts

    int account(int what) {
        switch (what) {
            case 0: return now.bridges.size();
            case 1: return now.trolls.size();
            case 2: return now.goats.size();
            case 3: return now.hour;
            case 4: return count(now.goats, each -> each.isOnStrike ? 1 : 0);
            case 5: return count(now.bridges, each -> each.disputer >= 0 ? 1 : 0);
            case 6: return count(now.trolls, each -> now.hour < each.expires ? 1 : 0);
            case 7: return count(now.bridges, each -> isFoggy(each) ? 1 : 0);
            case 8: return count(now.goats, each -> each.brought);
            case 9: return count(now.goats, each -> each.coins);
            case 10: return count(now.trolls, each -> each.coins);
            case 11: return count(now.bridges, Bridge::chest);
            case 12: return count(now.bridges, each -> each.crossed);
            case 13: return buffer.length();
            case 14: return past.size();
            default: throw new IllegalArgumentException();
        }
    }

    double meanToll() {
        needBridges();
        return (double) sum(true) / now.bridges.size();
    }

    float countedShare() {
        needBridges();
        return (float) counted() / (float) now.bridges.size();
    }

    private void needBridges() {
        if (now.bridges.isEmpty()) {
            throw new ArithmeticException();
        }
    }

    // ---- undo, the snapshot

    int undo() {
        if (past.isEmpty()) {
            throw new IllegalStateException();
        }
        now = past.removeLast();
        return past.size();
    }

    int save() {
        saved = now.copy();
        return now.bridges.size();
    }

    int restore() {
        if (saved == null) {
            throw new IllegalStateException();
        }
        now = saved.copy();
        past.clear();
        return now.bridges.size();
    }

    // ---- what they share

    private Bridge bridgeAt(int bridge) {
        index(bridge, now.bridges.size());
        return now.bridges.get(bridge);
    }

    private Troll trollAt(int troll) {
        index(troll, now.trolls.size());
        return now.trolls.get(troll);
    }

    private Goat goatAt(int goat) {
        index(goat, now.goats.size());
        return now.goats.get(goat);
    }

    private boolean isFoggy(Bridge bridge) {
        return now.hour < bridge.lifts;
    }

    private int difficulty(Troll troll) {
        return now.hour < troll.expires ? troll.difficulty : 0;
    }

    private static <T> int count(List<T> all, ToIntFunction<T> each) {
        return all.stream().mapToInt(each).sum();
    }

    private static void index(int index, int count) {
        if (index < 0 || index >= count) {
            throw new IndexOutOfBoundsException();
        }
    }

    private static void range(int number, int least, int most) {
        if (number < least || number > most) {
            throw new IllegalArgumentException();
        }
    }

    private static void element(int place, int count) {
        if (place < 0 || place >= count) {
            throw new NoSuchElementException();
        }
    }

    private static void refuse(boolean isRefused, int reason, int detail) {
        if (isRefused) {
            throw new Refused(reason, detail);
        }
    }
}
