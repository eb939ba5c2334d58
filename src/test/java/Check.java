import java.util.ArrayList;
import java.util.List;
import java.util.function.Consumer;
import java.util.function.LongSupplier;
import java.util.function.Supplier;

/** What the tests share: answers are compared, wrong ones are printed and counted. */
final class Check {
    private static int wrong = 0;
    private static int asked = 0;
    private static String about = "";
    private static final long MOST_SECONDS = 240;

    static {
        Thread watch = new Thread(Check::endIfItTakesTooLong);
        watch.setDaemon(true);
        watch.start();
    }

    private Check() {
    }

    /** A call that fails to end fails its test, and does not keep the others from being run. */
    private static void endIfItTakesTooLong() {
        try {
            Thread.sleep(MOST_SECONDS * 1000);
        } catch (InterruptedException interrupted) {
            return;
        }
        System.out.println(about + "a call does not end");
        Runtime.getRuntime().halt(1);
    }

    /** What stands ahead of all that is told from now on. */
    static void about(String what) {
        about = what;
    }

    static void same(String what, long want, long got) {
        asked++;
        if (want != got) {
            tellWrong(what, String.valueOf(want), String.valueOf(got));
        }
    }

    static void same(String what, double want, double got) {
        asked++;
        if (want != got) {
            tellWrong(what, String.valueOf(want), String.valueOf(got));
        }
    }

    static void same(String what, String want, String got) {
        asked++;
        if (!want.equals(got)) {
            tellWrong(what, want, got);
        }
    }

    static void yes(String what, boolean got) {
        same(what, 1, got ? 1 : 0);
    }

    static void no(String what, boolean got) {
        same(what, 0, got ? 1 : 0);
    }

    /** The class must be this very one: a class below it is another exception. */
    static void throwing(String what, Class<? extends RuntimeException> want, LongSupplier call) {
        asked++;
        String got;
        try {
            got = "the answer " + call.getAsLong();
        } catch (RuntimeException thrown) {
            if (thrown.getClass() == want) {
                return;
            }
            got = thrown.toString();
        }
        tellWrong(what, want.getSimpleName(), got);
    }

    /** Some exception must be thrown, whichever it is. */
    static void unanswered(String what, LongSupplier call) {
        String got;
        try {
            got = "the answer " + call.getAsLong();
        } catch (RuntimeException thrown) {
            got = "an exception";
        }
        same(what, "an exception", got);
    }

    static void noSuch(String what, LongSupplier call) {
        throwing(what, IndexOutOfBoundsException.class, call);
    }

    static void badNumber(String what, LongSupplier call) {
        throwing(what, IllegalArgumentException.class, call);
    }

    static void noElement(String what, LongSupplier call) {
        throwing(what, java.util.NoSuchElementException.class, call);
    }

    static void badState(String what, LongSupplier call) {
        throwing(what, IllegalStateException.class, call);
    }

    static void arithmetic(String what, LongSupplier call) {
        throwing(what, ArithmeticException.class, call);
    }

    /** Numbers below and above what is allowed, and some that would be within it if bits of them were lost. */
    static int[] outside(int least, int most) {
        List<Integer> numbers = new ArrayList<>(List.of(least - 1, least - 2, most + 1, most + 2,
                Integer.MIN_VALUE, Integer.MAX_VALUE));
        for (int lost = 4; lost < 32; lost++) {
            int more = (1 << lost) + least;
            int less = least - (1 << lost);
            if (more > most || more < least) {
                numbers.add(more);
            }
            numbers.add(less);
        }
        numbers.removeIf(number -> number >= least && number <= most);
        return numbers.stream().mapToInt(Integer::intValue).toArray();
    }

    static void refused(TrollBridges x, String what, int reason, int detail, LongSupplier call) {
        throwing(what, UnsupportedOperationException.class, call);
        same(what + ": reason", reason, x.refusal(false, false));
        same(what + ": detail", detail, x.refusal(false, true));
        noElement(what + ": no cause", () -> x.refusal(true, false));
        noElement(what + ": no detail of a cause", () -> x.refusal(true, true));
    }

    static void type(TrollBridges x, String text) {
        for (int index = 0; index < text.length(); index++) {
            x.type(text.charAt(index));
        }
    }

    static int read(TrollBridges x, String text) {
        type(x, text);
        return x.read();
    }

    static String line(TrollBridges x, int length) {
        StringBuilder line = new StringBuilder();
        for (int index = 0; index < length; index++) {
            line.append(x.written(index));
        }
        noElement("the line ends", () -> x.written(length));
        return line.toString();
    }

    /** The calls fail on one of two alike objects; both must tell the same then, and what they undo. */
    static void unchanged(String what, Supplier<TrollBridges> maker, List<Consumer<TrollBridges>> calls) {
        for (int call = 0; call < calls.size(); call++) {
            TrollBridges x = maker.get();
            TrollBridges undone = maker.get();
            unanswered(what + ", call " + call, x, calls.get(call));
            unanswered(what + ", call " + call, undone, calls.get(call));
            same(what + ", call " + call + ": state", dump(maker.get()), dump(x));
            same(what + ", call " + call + ": changes", maker.get().account(14), undone.account(14));
            same(what + ", call " + call + ": undone", dump(undoneOnce(maker.get())), dump(undoneOnce(undone)));
        }
    }

    private static TrollBridges undoneOnce(TrollBridges x) {
        if (x.account(14) > 0) {
            x.undo();
        }
        return x;
    }

    private static void unanswered(String what, TrollBridges x, Consumer<TrollBridges> call) {
        unanswered(what, () -> {
            call.accept(x);
            return 0;
        });
    }

    /** All that can be asked without changing anything but the line. */
    static String dump(TrollBridges x) {
        StringBuilder all = new StringBuilder();
        for (int what = 0; what <= 12; what++) {
            all.append(x.account(what)).append(',');
        }
        for (int bridge = 0; bridge < x.account(0); bridge++) {
            all.append("\nbridge ").append(bridge);
            for (int what = 0; what <= 8; what++) {
                all.append(' ').append(x.bridgeOf(bridge, what));
            }
        }
        for (int troll = 0; troll < x.account(1); troll++) {
            all.append("\ntroll ").append(troll);
            for (int what = 0; what <= 3; what++) {
                all.append(' ').append(x.trollOf(troll, what));
            }
        }
        for (int goat = 0; goat < x.account(2); goat++) {
            all.append("\ngoat ").append(goat);
            for (int what = 0; what <= 5; what++) {
                all.append(' ').append(x.goatOf(goat, what));
            }
        }
        return all.toString();
    }

    private static void tellWrong(String what, String want, String got) {
        wrong++;
        if (wrong <= 40) {
            System.out.println(about + what + ": due is " + want + ", but it is " + got);
        }
    }

    static void finish(String name) {
        System.out.println(name + ": " + asked + " answers, " + wrong + " wrong");
        if (wrong != 0) {
            System.exit(1);
        }
    }
}
