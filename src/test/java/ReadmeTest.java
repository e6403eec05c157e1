import java.lang.reflect.Method;
import java.lang.reflect.Modifier;
import java.nio.file.Files;
import java.nio.file.Path;
import java.util.regex.Matcher;
import java.util.regex.Pattern;

/** README.md tells how to use each method, and the calls of its example have the answers that it tells. */
public final class ReadmeTest {
    private static final Check check = new Check();
    private static final Pattern MADE = Pattern.compile("WideStore store = new WideStore\\((.*?)\\);");
    private static final Pattern CALL = Pattern.compile("store\\.(\\w+)\\((.*?)\\); +// (true|false|-?\\d+)(:.*)?");

    public static void main(String[] args) throws Exception {
        String readme = Files.readString(Path.of("README.md"));
        namesEveryMethod(readme);
        tellsHowToTest(readme);
        exampleHasItsAnswers(readme);
        check.finish();
    }

    private static void namesEveryMethod(String readme) {
        check.part("README.md names every method, with its parameters");
        check.due("the constructor", readme.contains("`new WideStore(cap, grace)`"), true);
        check.due("NONE", readme.contains("`WideStore.NONE` is -1"), true);
        for (Method method : WideStore.class.getDeclaredMethods()) {
            if (Modifier.isPublic(method.getModifiers())) {
                String row = "\\| `" + method.getName() + "\\((\\w+, ){" + Math.max(0, method.getParameterCount() - 1)
                    + "}" + (method.getParameterCount() == 0 ? "" : "\\w+") + "\\)` \\|";
                check.due(method.getName(), Pattern.compile(row).matcher(readme).find(), true);
            }
        }
    }

    private static void tellsHowToTest(String readme) {
        check.part("README.md tells the rest");
        check.due("a refused call", readme.contains("### A refused call"), true);
        check.due("how to run the tests", readme.contains("## How to run the tests\n\n    .ci/run\n"), true);
    }

    private static void exampleHasItsAnswers(String readme) throws Exception {
        check.part("the example of README.md");
        int start = readme.indexOf("```java\n") + "```java\n".length();
        String[] lines = readme.substring(start, readme.indexOf("```", start)).split("\n");
        Matcher made = MADE.matcher(lines[0]);
        check.due("its first line makes an object", made.matches(), true);
        int[] sizes = numbers(made.group(1));
        WideStore store = new WideStore(sizes[0], sizes[1]);
        for (int i = 1; i < lines.length; i++) {
            Matcher call = CALL.matcher(lines[i]);
            check.due("a call with its answer: " + lines[i], call.matches(), true);
            if (call.matches()) {
                check.due(lines[i], answer(store, call.group(1), numbers(call.group(2))).equals(call.group(3)), true);
            }
        }
    }

    private static int[] numbers(String arguments) {
        String[] parts = arguments.isEmpty() ? new String[0] : arguments.split(", ");
        int[] numbers = new int[parts.length];
        for (int i = 0; i < parts.length; i++) {
            numbers[i] = Integer.parseInt(parts[i]);
        }
        return numbers;
    }

    private static String answer(WideStore store, String name, int[] arguments) throws Exception {
        Class<?>[] types = new Class<?>[arguments.length];
        Object[] values = new Object[arguments.length];
        for (int i = 0; i < arguments.length; i++) {
            types[i] = int.class;
            values[i] = arguments[i];
        }
        return String.valueOf(WideStore.class.getMethod(name, types).invoke(store, values));
    }
}
