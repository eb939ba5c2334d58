import java.util.function.LongSupplier;

/** What the tests share: answers are compared, wrong ones are printed and counted. */
final class Check {
    private static int wrong = 0;
    private static int asked = 0;

    private Check() {
    }

    static void same(String what, long want, long got) {
        asked++;
        if (want != got) {
            tellWrong(what, String.valueOf(want), String.valueOf(got));
        }
    }

    static void same(String what, double want, double got) {
        asked++;
        if (want != got) {
            tellWrong(what, String.valueOf(want), String.valueOf(got));
        }
    }

    static void same(String what, String want, String got) {
        asked++;
        if (!want.equals(got)) {
            tellWrong(what, want, got);
        }
    }

    static void yes(String what, boolean got) {
        same(what, 1, got ? 1 : 0);
    }

    static void no(String what, boolean got) {
        same(what, 0, got ? 1 : 0);
    }

    /** The class must be this very one: a class below it is another exception. */
    static void throwing(String what, Class<? extends RuntimeException> want, LongSupplier call) {
        asked++;
        String got;
        try {
            got = "the answer " + call.getAsLong();
        } catch (RuntimeException thrown) {
            if (thrown.getClass() == want) {
                return;
            }
            got = thrown.toString();
        }
        tellWrong(what, want.getSimpleName(), got);
    }

    static void noSuch(String what, LongSupplier call) {
        throwing(what, IndexOutOfBoundsException.class, call);
    }

    static void badNumber(String what, LongSupplier call) {
        throwing(what, IllegalArgumentException.class, call);
    }

    static void noElement(String what, LongSupplier call) {
        throwing(what, java.util.NoSuchElementException.class, call);
    }

    static void badState(String what, LongSupplier call) {
        throwing(what, IllegalStateException.class, call);
    }

    static void refused(TrollBridges x, String what, int reason, int detail, LongSupplier call) {
        throwing(what, UnsupportedOperationException.class, call);
        same(what + ": reason", reason, x.refusal(false, false));
        same(what + ": detail", detail, x.refusal(false, true));
        noElement(what + ": no cause", () -> x.refusal(true, false));
        noElement(what + ": no detail of a cause", () -> x.refusal(true, true));
    }

    static void type(TrollBridges x, String text) {
        for (int index = 0; index < text.length(); index++) {
            x.type(text.charAt(index));
        }
    }

    static int read(TrollBridges x, String text) {
        type(x, text);
        return x.read();
    }

    static String line(TrollBridges x, int length) {
        StringBuilder line = new StringBuilder();
        for (int index = 0; index < length; index++) {
            line.append(x.written(index));
        }
        noElement("the line ends", () -> x.written(length));
        return line.toString();
    }

    /** All that can be asked without changing anything but the line. */
    static String dump(TrollBridges x) {
        StringBuilder all = new StringBuilder();
        for (int what = 0; what <= 12; what++) {
            all.append(x.account(what)).append(',');
        }
        for (int bridge = 0; bridge < x.account(0); bridge++) {
            all.append("\nbridge ").append(bridge);
            for (int what = 0; what <= 8; what++) {
                all.append(' ').append(x.bridgeOf(bridge, what));
            }
        }
        for (int troll = 0; troll < x.account(1); troll++) {
            all.append("\ntroll ").append(troll);
            for (int what = 0; what <= 3; what++) {
                all.append(' ').append(x.trollOf(troll, what));
            }
        }
        for (int goat = 0; goat < x.account(2); goat++) {
            all.append("\ngoat ").append(goat);
            for (int what = 0; what <= 5; what++) {
                all.append(' ').append(x.goatOf(goat, what));
            }
        }
        return all.toString();
    }

    private static void tellWrong(String what, String want, String got) {
        wrong++;
        if (wrong <= 40) {
            System.out.println(what + ": due is " + want + ", but it is " + got);
        }
    }

    static void finish(String name) {
        System.out.println(name + ": " + asked + " answers, " + wrong + " wrong");
        if (wrong != 0) {
            System.exit(1);
        }
    }
}
