import java.io.IOException;
import java.lang.reflect.Constructor;
import java.lang.reflect.Field;
import java.lang.reflect.Method;
import java.lang.reflect.Modifier;
import java.nio.file.Files;
import java.nio.file.Path;
import java.util.ArrayList;
import java.util.HashSet;
import java.util.List;
import java.util.Set;
import java.util.TreeSet;
import java.util.regex.Matcher;
import java.util.regex.Pattern;

/** The class has the document's face and nothing besides, and keeps to what can be seen of LANGUAGE.md. */
public final class FaceTest {
    private static final Path DOCUMENT = Path.of("../shared/DOC.md");
    private static final Path PROGRAM = Path.of("src/main/java/TrollBridges.java");

    private FaceTest() {
    }

    public static void main(String[] args) throws IOException {
        publicMethodsAreThoseOfTheDocument();
        restIsHidden();
        innerClasses();
        sourceKeepsToTheLanguage();
        Check.finish("FaceTest");
    }

    private static void publicMethodsAreThoseOfTheDocument() throws IOException {
        Set<String> want = new TreeSet<>();
        Matcher method = Pattern.compile("    public (\\w+) (\\w+)\\(([^)]*)\\)(?: throws ([^;]*))?;")
                .matcher(Files.readString(DOCUMENT));
        while (method.find()) {
            want.add(method.group(1) + " " + method.group(2) + types(method.group(3)) + throwing(method.group(4)));
        }
        Set<String> got = new TreeSet<>();
        for (Method each : TrollBridges.class.getDeclaredMethods()) {
            if (!Modifier.isPrivate(each.getModifiers()) && !each.isSynthetic()) {
                got.add(textOf(each));
                Check.yes(each.getName() + " is public", Modifier.isPublic(each.getModifiers()));
                Check.no(each.getName() + " is not static", Modifier.isStatic(each.getModifiers()));
            }
        }
        Check.same("face: as many as the document has", 44, want.size());
        Check.same("face", want.toString(), got.toString());
    }

    private static String types(String parameters) {
        List<String> types = new ArrayList<>();
        for (String parameter : parameters.split(", ")) {
            if (!parameter.isEmpty()) {
                types.add(parameter.split(" ")[0]);
            }
        }
        return types.toString();
    }

    private static String throwing(String exceptions) {
        return exceptions == null ? "[]" : List.of(exceptions.split(", ")).toString();
    }

    private static String textOf(Method method) {
        List<String> types = new ArrayList<>();
        for (Class<?> type : method.getParameterTypes()) {
            types.add(type.getSimpleName());
        }
        List<String> exceptions = new ArrayList<>();
        for (Class<?> type : method.getExceptionTypes()) {
            exceptions.add(type.getSimpleName());
        }
        return method.getReturnType().getSimpleName() + " " + method.getName() + types + exceptions;
    }

    private static void restIsHidden() {
        Check.yes("class is public", Modifier.isPublic(TrollBridges.class.getModifiers()));
        Check.yes("class is final", Modifier.isFinal(TrollBridges.class.getModifiers()));
        Constructor<?>[] constructors = TrollBridges.class.getDeclaredConstructors();
        Check.same("one constructor", 1, constructors.length);
        Check.yes("it is public", Modifier.isPublic(constructors[0].getModifiers()));
        Check.same("it has no parameter", 0, constructors[0].getParameterCount());
        for (Field field : TrollBridges.class.getDeclaredFields()) {
            Check.yes(field.getName() + " is private", Modifier.isPrivate(field.getModifiers()));
        }
    }

    private static void innerClasses() {
        Set<String> publicNames = new HashSet<>();
        for (Method method : TrollBridges.class.getDeclaredMethods()) {
            if (Modifier.isPublic(method.getModifiers())) {
                publicNames.add(method.getName());
            }
        }
        List<Class<?>> all = new ArrayList<>(List.of(TrollBridges.class.getDeclaredClasses()));
        Check.yes("some twelve classes", all.size() < 12);
        for (Class<?> inner : all) {
            Check.yes(inner + " is static", Modifier.isStatic(inner.getModifiers()));
            Check.no(inner + " is hidden", Modifier.isPublic(inner.getModifiers()));
        }
        all.add(TrollBridges.class);
        for (Class<?> each : all) {
            int fields = 0;
            for (Field field : each.getDeclaredFields()) {
                boolean isStatic = Modifier.isStatic(field.getModifiers());
                Check.yes(field + " is final if static", !isStatic || Modifier.isFinal(field.getModifiers()));
                fields += isStatic ? 0 : 1;
            }
            Check.yes(each + " has some twenty fields", fields <= 20);
            for (Method method : each.getDeclaredMethods()) {
                boolean isPublic = Modifier.isPublic(method.getModifiers());
                Check.no(method + " has a name of its own", !isPublic && publicNames.contains(method.getName()));
                Check.yes(method + " has at most seven parameters", method.getParameterCount() <= 7);
            }
        }
    }

    private static void sourceKeepsToTheLanguage() throws IOException {
        String source = Files.readString(PROGRAM).replaceAll("(?s)/\\*.*?\\*/", "").replaceAll("//[^\n]*", "");
        String bare = source.replaceAll("\"[^\"\n]*\"", "\"\"");
        String[] ruledOut = {"\\bcatch\\b", "\\btry\\b", "\\bfinally\\b", "->", "::", "\\bpackage\\b", "Exact\\(",
            "\\bsynchronized\\b", "\\bassert\\b", "\\binstanceof\\b", "getMessage", "\\bObject\\b", "\" *\\+",
            "\\+ *\"", " / (?!\\(double\\)|\\(float\\))", " % "};
        for (String each : ruledOut) {
            Check.no("the program has no " + each, Pattern.compile(each).matcher(bare).find());
        }
        Matcher imports = Pattern.compile("import ([^;]*);").matcher(source);
        while (imports.find()) {
            Check.same("imported", "java.util.NoSuchElementException", imports.group(1));
        }
        Matcher signs = Pattern.compile("[^\n\\x20-\\x7e]").matcher(source);
        Check.no("only plain signs", signs.find());
    }
}
