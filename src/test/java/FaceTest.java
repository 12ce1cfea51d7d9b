import java.lang.reflect.Constructor;
import java.lang.reflect.Field;
import java.lang.reflect.Method;
import java.lang.reflect.Modifier;
import java.util.Arrays;
import java.util.Set;
import java.util.TreeSet;

/** The face of the document, whole and with nothing beside it (LANGUAGE.md, rules 1 and 5). */
public final class FaceTest {
    private static final String[] METHODS = {
        "int card(int, int) throws IllegalStateException",
        "int part(int, int) throws IllegalArgumentException, IllegalStateException",
        "void start() throws IllegalStateException",
        "int clear()",
        "int step(int) throws IllegalArgumentException, IllegalStateException",
        "int fault(int, int) throws IllegalArgumentException",
        "boolean cutAfter(int)",
        "boolean resume()",
        "int phase()",
        "int level()",
        "int runs(int)",
        "int dummies(int)",
        "int role(int)",
        "int length(int, int)",
        "int at(int, int, int)",
        "boolean memory(int)",
        "int written()",
        "int broken()",
        "int sorted(int)",
        "int compare(int, int)",
        "int field(int, int)",
    };

    private static final Check check = new Check();

    public static void main(String[] args) {
        check.at("the face");
        check.due("class", Modifier.toString(ReelOffice.class.getModifiers()), "public final");
        methods();
        constructors();
        fields();
        classesInside();
        check.end();
    }

    private static void methods() {
        Set<String> open = new TreeSet<>();
        Set<String> openNames = new TreeSet<>();
        Set<String> hiddenNames = new TreeSet<>();
        for (Method method : ReelOffice.class.getDeclaredMethods()) {
            if (Modifier.isPrivate(method.getModifiers())) {
                hiddenNames.add(method.getName());
            } else {
                open.add(signature(method));
                openNames.add(method.getName());
                check.due(method.getName(), Modifier.toString(method.getModifiers()), "public");
            }
        }
        check.due("methods", open, new TreeSet<>(Arrays.asList(METHODS)));
        hiddenNames.retainAll(openNames);
        check.due("private methods with a public one's name", hiddenNames, Set.of());
    }

    private static String signature(Method method) {
        String text = method.getReturnType() + " " + method.getName() + "(" + names(method.getParameterTypes()) + ")";
        String thrown = names(method.getExceptionTypes());
        return thrown.isEmpty() ? text : text + " throws " + thrown;
    }

    private static String names(Class<?>[] types) {
        StringBuilder text = new StringBuilder();
        for (Class<?> type : types) {
            text.append(text.length() == 0 ? "" : ", ").append(type.getSimpleName());
        }
        return text.toString();
    }

    private static void constructors() {
        Constructor<?>[] all = ReelOffice.class.getDeclaredConstructors();
        check.due("constructors", all.length, 1);
        check.due("constructor", all[0].toString(), "public ReelOffice(int)");
    }

    private static void fields() {
        for (Field field : ReelOffice.class.getDeclaredFields()) {
            boolean open = !Modifier.isPrivate(field.getModifiers());
            check.due("open field " + field.getName(), open, field.getName().equals("NONE"));
            if (Modifier.isStatic(field.getModifiers())) {
                check.due("final " + field.getName(), Modifier.isFinal(field.getModifiers()), true);
            }
        }
    }

    private static void classesInside() {
        for (Class<?> inside : ReelOffice.class.getDeclaredClasses()) {
            int modifiers = inside.getModifiers();
            check.due("static " + inside.getName(), Modifier.isStatic(modifiers), true);
            boolean open = Modifier.isPublic(modifiers) || Modifier.isProtected(modifiers);
            check.due("open " + inside.getName(), open, false);
        }
    }
}
