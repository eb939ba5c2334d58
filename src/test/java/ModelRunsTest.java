import java.lang.reflect.InvocationTargetException;
import java.lang.reflect.Method;
import java.lang.reflect.Modifier;
import java.util.ArrayList;
import java.util.Arrays;
import java.util.Collections;
import java.util.HashMap;
import java.util.List;
import java.util.Map;
import java.util.Random;

/** Runs of 512 random calls of the whole face, the same ones each time, with every answer as Model tells it. */
public final class ModelRunsTest {
    private static final int RUNS = 1000;
    private static final int CALLS = 512;
    private static final int MOST_TYPED = 60;
    private static final String SIGNS = "0123456789 ;+-abcdefghiklmnoprstuw\u0000\u0130\uff11";
    /** How often of 100 times a number is outside of what can be right. */
    private static final int WRONG = 4;

    /**
     * Each call as often as its first number tells, with what its numbers are: l a land, b a bridge, t a troll, g a
     * goat, d a digit, h hours, c coins, w what is asked, p a place, y yes or no. A text of commands is typed and
     * read as one.
     */
    private static final String[] CALLS_ASKED = {"6 bridge lldd", "4 troll", "4 goat lc", "12 post tb", "5 leave t",
        "8 riddle tdh", "8 fog bh", "5 price bd", "25 cross gb", "8 dispute gb", "6 settle by", "6 strike gy",
        "8 pass h", "6 bridgeOf bw", "4 trollOf tw", "4 goatOf gw", "2 due b", "3 takes b", "2 cheapest ll",
        "2 cheapestAgain ll", "2 fastest ll", "2 fastestAgain ll", "3 hangs ll", "1 sum y", "1 counted",
        "1 countedAgain", "1 isGeneral", "3 richest p", "3 tired p", "2 next", "2 isWell", "1 type", "1 read",
        "1 errorPosition", "6 refusal yy", "3 show l", "3 tell b", "6 written p", "6 account w", "1 meanToll",
        "1 countedShare", "3 undo", "1 save", "1 restore", "6 TEXT"};

    private static final Map<String, Method> REAL = methods(TrollBridges.class);
    private static final Map<String, Method> TOLD = methods(Model.class);

    private final Random random;
    private final TrollBridges real = new TrollBridges();
    private final Model model = new Model();
    private final List<String> calls = new ArrayList<>();
    /** How many lands are used: where they are few, bridges meet. */
    private int lands = 0;
    private boolean isWrong = false;
    private boolean isRefused = false;

    private ModelRunsTest(int seed) {
        random = new Random(seed);
    }

    public static void main(String[] args) {
        Check.same("face", 44, REAL.size());
        Map<String, Integer> answers = new HashMap<>();
        for (int seed = 0; seed < RUNS; seed++) {
            new ModelRunsTest(seed).run("run " + seed, answers);
        }
        everyAnswerCame(answers);
        Check.finish("ModelRunsTest");
    }

    private static Map<String, Method> methods(Class<?> type) {
        Map<String, Method> methods = new HashMap<>();
        for (Method method : type.getDeclaredMethods()) {
            if (!method.isSynthetic() && !Modifier.isPrivate(method.getModifiers())) {
                method.setAccessible(true);
                methods.put(method.getName(), method);
            }
        }
        return methods;
    }

    private void run(String what, Map<String, Integer> answers) {
        List<String> kinds = new ArrayList<>();
        for (String asked : CALLS_ASKED) {
            String[] parts = asked.split(" ", 2);
            kinds.addAll(Collections.nCopies(Integer.parseInt(parts[0]), parts[1]));
        }
        lands = 2 + random.nextInt(5);
        // a text is typed and read by up to 61 calls, and one may ask why it was refused
        while (calls.size() <= CALLS - MOST_TYPED - 2 && !isWrong) {
            String[] parts = (kinds.get(random.nextInt(kinds.size())) + " ").split(" ", -1);
            if (parts[0].equals("TEXT")) {
                typeAndRead(answers);
            } else {
                call(parts[0], arguments(parts[0], parts[1]), answers);
            }
            if (isRefused && !isWrong) {
                call("refusal", arguments("refusal", "yy"), answers);
            }
        }
        Check.no(what + " goes wrong: " + String.join(" ", calls), isWrong);
    }

    private void typeAndRead(Map<String, Integer> answers) {
        String text = text();
        for (int index = 0; index < text.length() && !isWrong; index++) {
            call("type", new Object[] {text.charAt(index)}, answers);
        }
        if (!isWrong) {
            call("read", new Object[0], answers);
        }
    }

    // ---- one call of both

    private void call(String name, Object[] arguments, Map<String, Integer> answers) {
        String told = answer(TOLD.get(name), model, arguments);
        String got = answer(REAL.get(name), real, arguments);
        calls.add(name + Arrays.toString(arguments) + "=" + got);
        isWrong = !told.equals(got);
        if (isWrong) {
            calls.add("but due is " + told);
        }
        answers.merge(name + (got.startsWith("throws") ? " " + got : ""), 1, Integer::sum);
        isRefused = got.equals("throws UnsupportedOperationException");
        if (isRefused) {
            answers.merge(name + " refused for " + model.refusal(false, false), 1, Integer::sum);
        }
    }

    private static String answer(Method method, Object on, Object[] arguments) {
        try {
            return String.valueOf(method.invoke(on, arguments));
        } catch (InvocationTargetException thrown) {
            return "throws " + thrown.getCause().getClass().getSimpleName();
        } catch (IllegalAccessException closed) {
            throw new IllegalStateException(closed);
        }
    }

    private Object[] arguments(String name, String kinds) {
        if (name.equals("type")) {
            return new Object[] {SIGNS.charAt(random.nextInt(SIGNS.length()))};
        }
        Object[] arguments = new Object[kinds.length()];
        for (int place = 0; place < kinds.length(); place++) {
            char kind = kinds.charAt(place);
            arguments[place] = kind == 'y' ? (Object) random.nextBoolean() : (Object) number(kind);
        }
        return arguments;
    }

    private int number(char kind) {
        if (random.nextInt(100) < WRONG) {
            int[] wrong = {-1, 5, 6, 9, 10, 15, 48, 49, 99, 100, Integer.MIN_VALUE, Integer.MAX_VALUE};
            return wrong[random.nextInt(wrong.length)];
        }
        switch (kind) {
            case 'l': return random.nextInt(lands);
            case 'b': return random.nextInt(Math.max(1, model.account(0)));
            case 't': return random.nextInt(Math.max(1, model.account(1)));
            case 'g': return random.nextInt(Math.max(1, model.account(2)));
            case 'h': return random.nextInt(12);
            case 'c': return random.nextInt(3) == 0 ? random.nextInt(10) : random.nextInt(100);
            case 'w': return random.nextInt(15);
            case 'p': return random.nextInt(12);
            default: return random.nextInt(10);
        }
    }

    // ---- texts

    /** Commands, some of them with a sign changed, put in, left out, or with the end cut off. */
    private String text() {
        StringBuilder text = new StringBuilder(command());
        while (random.nextInt(3) != 0) {
            text.append(';').append(command());
        }
        for (int changes = Math.max(0, random.nextInt(6) - 3); changes > 0 && text.length() > 0; changes--) {
            int at = random.nextInt(text.length());
            char sign = SIGNS.charAt(random.nextInt(SIGNS.length()));
            switch (random.nextInt(4)) {
                case 0: text.setCharAt(at, sign); break;
                case 1: text.insert(at, sign); break;
                case 2: text.deleteCharAt(at); break;
                default: text.setLength(at);
            }
        }
        if (text.length() > MOST_TYPED) {
            boolean isCutAnywhere = random.nextInt(4) == 0;
            text.setLength(isCutAnywhere ? MOST_TYPED : Math.max(text.lastIndexOf(";", MOST_TYPED), 0));
        }
        return text.toString();
    }

    private String command() {
        String[] forms = {"bridge l l d d", "troll", "goat l c", "post t b", "cross g b", "dispute g b", "leave t",
            "strike g", "work g", "riddle t d h", "fog b h", "settle b+", "settle b-", "pass h"};
        StringBuilder command = new StringBuilder();
        String[] words = forms[random.nextInt(forms.length)].split(" ");
        command.append(words[0]);
        for (int word = 1; word < words.length; word++) {
            char kind = words[word].charAt(0);
            int number = Math.abs(number(kind) % (kind == 'h' || kind == 'c' ? 100 : 10));
            command.append(' ').append(number).append(words[word].substring(1));
        }
        return command.toString();
    }

    // ---- what the runs met

    private static void everyAnswerCame(Map<String, Integer> answers) {
        for (Method method : REAL.values()) {
            Check.yes(method.getName() + " answers", answers.getOrDefault(method.getName(), 0) > 0);
            for (Class<?> thrown : method.getExceptionTypes()) {
                String answer = method.getName() + " throws " + thrown.getSimpleName();
                Check.yes(answer, answers.getOrDefault(answer, 0) > 0);
            }
        }
        String[] refused = {"bridge 2", "bridge 1", "troll 1", "goat 1", "post 3", "post 10", "post 4", "leave 9",
            "leave 10", "riddle 5", "fog 3", "price 3", "price 10", "cross 6", "cross 7", "cross 8", "dispute 9",
            "dispute 10", "settle 11", "strike 3", "read 12"};
        for (String each : refused) {
            String answer = each.replace(" ", " refused for ");
            Check.yes(answer, answers.getOrDefault(answer, 0) > 0);
        }
    }
}
