import java.lang.reflect.Constructor;
import java.lang.reflect.Field;
import java.lang.reflect.Method;
import java.lang.reflect.Modifier;
import java.util.Arrays;
import java.util.HashSet;
import java.util.Set;
import java.util.TreeSet;

/** The face is the one of the document, and nothing else of the class can be reached (LANGUAGE.md, rules 1 and 5). */
public final class FaceTest {
    private static final Check check = new Check();

    private static final String[] FACE = {
        "final int NONE", "WideStore(int,int)", "boolean put(int,int,int,int,int)", "boolean delete(int,int,int)",
        "boolean wipe(int,int,int,int)", "int get(int,int)", "int stamp(int,int)", "int next(int,int)",
        "int nextRow(int)", "int flush()", "int merge()", "int sync()", "int crash()", "int tick(int)",
        "int count(int)", "int run(int,int)"};

    public static void main(String[] args) {
        check.part("the face");
        Class<?> type = WideStore.class;
        check.due("public", Modifier.isPublic(type.getModifiers()), true);
        check.due("final", Modifier.isFinal(type.getModifiers()), true);
        Set<String> open = openMembers(type);
        for (String member : FACE) {
            check.due("has " + member, open.remove(member), true);
        }
        check.due("other members that can be reached: " + open, open.size(), 0);
        privateNamesAreOther(type);
        for (Class<?> inside : type.getDeclaredClasses()) {
            int modifiers = inside.getModifiers();
            check.due(inside + " is static", Modifier.isStatic(modifiers), true);
            check.due(inside + " is hidden", Modifier.isPublic(modifiers) || Modifier.isProtected(modifiers), false);
            staticFieldsAreFinal(inside);
        }
        staticFieldsAreFinal(type);
        check.finish();
    }

    private static Set<String> openMembers(Class<?> type) {
        Set<String> open = new TreeSet<>();
        for (Field field : type.getDeclaredFields()) {
            if (!Modifier.isPrivate(field.getModifiers()) && !field.isSynthetic()) {
                boolean constant = Modifier.isStatic(field.getModifiers()) && Modifier.isFinal(field.getModifiers());
                open.add((constant ? "final " : "") + field.getType() + " " + field.getName());
            }
        }
        for (Constructor<?> made : type.getDeclaredConstructors()) {
            if (!Modifier.isPrivate(made.getModifiers())) {
                open.add(type.getName() + parameters(made.getParameterTypes()));
            }
        }
        for (Method method : type.getDeclaredMethods()) {
            if (!Modifier.isPrivate(method.getModifiers()) && !method.isSynthetic()) {
                String kind = Modifier.isPublic(method.getModifiers()) ? "" : "not public ";
                kind += Modifier.isStatic(method.getModifiers()) ? "static " : "";
                open.add(kind + method.getReturnType() + " " + method.getName() + parameters(method.getParameterTypes()));
            }
        }
        return open;
    }

    private static String parameters(Class<?>[] types) {
        return Arrays.toString(types).replace("[", "(").replace("]", ")").replace(" ", "");
    }

    private static void privateNamesAreOther(Class<?> type) {
        Set<String> names = new HashSet<>();
        for (Method method : type.getMethods()) {
            names.add(method.getName());
        }
        for (Method method : type.getDeclaredMethods()) {
            if (Modifier.isPrivate(method.getModifiers())) {
                check.due("private " + method.getName() + " has a public name", names.contains(method.getName()), false);
            }
        }
    }

    private static void staticFieldsAreFinal(Class<?> type) {
        for (Field field : type.getDeclaredFields()) {
            if (Modifier.isStatic(field.getModifiers())) {
                check.due(field + " is final", Modifier.isFinal(field.getModifiers()), true);
            }
        }
    }
}
