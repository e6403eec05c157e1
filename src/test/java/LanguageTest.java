import java.lang.reflect.Constructor;
import java.lang.reflect.Field;
import java.lang.reflect.Method;
import java.lang.reflect.Modifier;
import java.nio.file.Files;
import java.nio.file.Path;
import java.util.ArrayList;
import java.util.List;
import java.util.Set;
import java.util.regex.Matcher;
import java.util.regex.Pattern;

/** The rules of LANGUAGE.md that can be read off the source or the compiled class; FaceTest has rule 1. */
public final class LanguageTest {
    private static final Check check = new Check();
    private static final int MAX_LINES = 60;
    private static final int MAX_PARAMETERS = 7;
    private static final int MAX_CLASSES = 12;
    private static final int MAX_FIELDS = 20;

    // The document names no exception, so the class has none; the rest is ruled out for every program.
    private static final String[] RULED_OUT = {"throw", "throws", "try", "catch", "finally", "synchronized", "assert",
        "package", "protected", "volatile", "transient", "native", "strictfp", "double", "float", "Object", "Thread",
        "Random", "equals", "hashCode", "toString", "getClass", "nanoTime", "currentTimeMillis", "identityHashCode"};

    private static final Set<String> IMPORTS = Set.of("java.util.ArrayList", "java.util.List", "java.util.Arrays");
    private static final Set<String> LIBRARY = Set.of("Math.max", "Math.min", "Math.abs", "Integer.compare",
        "System.arraycopy", "Arrays.copyOf", "Arrays.copyOfRange", "Arrays.fill", "List.of");
    private static final Set<String> OF_A_LIST = Set.of("add", "get", "set", "remove", "size", "isEmpty", "clear");
    private static final Set<Class<?>> CONSTANTS = Set.of(int.class, long.class, boolean.class, char.class,
        String.class, int[].class, long[].class, char[].class, byte[].class);

    public static void main(String[] args) throws Exception {
        String source = Files.readString(Path.of("src/main/java/WideStore.java"));
        String code = source.replaceAll("(?s)/\\*.*?\\*/", "").replaceAll("//[^\n]*", "");
        nothingThatIsRuledOut(code);
        onlyTheListedLibrary(code);
        methodsStayShort(source);
        for (Class<?> type : allClasses()) {
            fieldsAreAllowed(type);
            parametersAreFew(type);
        }
        check.finish();
    }

    private static void nothingThatIsRuledOut(String code) {
        check.part("rules 2, 3, 5, 6 and 13");
        for (String word : RULED_OUT) {
            check.due("'" + word + "' is used", Pattern.compile("\\b" + word + "\\b").matcher(code).find(), false);
        }
        check.due("a lambda", code.contains("->"), false);
        check.due("a method reference", code.contains("::"), false);
        check.due("a static initialiser", Pattern.compile("\\bstatic\\s*\\{").matcher(code).find(), false);
        check.due("a text", code.contains("\""), false);
        check.due("a loop that does not tell its end", Pattern.compile("while\\s*\\(true|for\\s*\\(;;").matcher(code)
            .find(), false);
    }

    private static void onlyTheListedLibrary(String code) {
        check.part("rule 4");
        Matcher imported = Pattern.compile("import\\s+([\\w.*]+)\\s*;").matcher(code);
        while (imported.find()) {
            check.due("import " + imported.group(1), IMPORTS.contains(imported.group(1)), true);
        }
        Matcher used = Pattern.compile("\\b([A-Z]\\w*)\\s*\\.\\s*(\\w+)").matcher(code.replaceAll("import[^;]*;", ""));
        while (used.find()) {
            check.due(used.group(), LIBRARY.contains(used.group()), true);
        }
        Matcher ofRuns = Pattern.compile("\\bruns\\s*\\.\\s*(\\w+)").matcher(code);
        while (ofRuns.find()) {
            check.due(ofRuns.group(), OF_A_LIST.contains(ofRuns.group(1)), true);
        }
    }

    /** A method begins with its line of head and ends with a brace as far to the left as that. */
    private static void methodsStayShort(String source) {
        check.part("rule 11, lines of a method");
        Matcher method = Pattern.compile("(?m)^( +)[^\n=;]*\\([^\n;]*\\) \\{\n(?s:.*?)^\\1\\}$").matcher(source);
        int methods = 0;
        while (method.find()) {
            methods++;
            String head = method.group().split("\n")[0].trim();
            check.due(head + " is short", method.group().split("\n").length <= MAX_LINES, true);
        }
        check.due("methods were found", methods >= WideStore.class.getDeclaredMethods().length, true);
    }

    private static List<Class<?>> allClasses() {
        List<Class<?>> all = new ArrayList<>();
        all.add(WideStore.class);
        for (int i = 0; i < all.size(); i++) {
            all.addAll(List.of(all.get(i).getDeclaredClasses()));
        }
        check.part("rule 11, classes");
        check.due("few classes", all.size() <= MAX_CLASSES, true);
        return all;
    }

    private static void fieldsAreAllowed(Class<?> type) {
        check.part("rules 5 and 11, fields of " + type.getName());
        int fields = 0;
        for (Field field : type.getDeclaredFields()) {
            if (Modifier.isStatic(field.getModifiers())) {
                check.due(field + " is final", Modifier.isFinal(field.getModifiers()), true);
                check.due(field + " is a constant", CONSTANTS.contains(field.getType()), true);
            } else {
                fields++;
            }
        }
        check.due("few fields", fields <= MAX_FIELDS, true);
    }

    private static void parametersAreFew(Class<?> type) {
        check.part("rule 11, parameters in " + type.getName());
        for (Method method : type.getDeclaredMethods()) {
            check.due(method + " has few", method.getParameterCount() <= MAX_PARAMETERS, true);
        }
        for (Constructor<?> made : type.getDeclaredConstructors()) {
            check.due(made + " has few", made.getParameterCount() <= MAX_PARAMETERS, true);
        }
    }
}
