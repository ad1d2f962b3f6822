import java.io.IOException;
import java.lang.reflect.Constructor;
import java.lang.reflect.Field;
import java.lang.reflect.Method;
import java.lang.reflect.Modifier;
import java.nio.file.Files;
import java.nio.file.Path;
import java.util.ArrayList;
import java.util.List;
import java.util.Set;
import java.util.TreeSet;

/**
 * The face is the document's and nothing else, and the source keeps to those
 * rules of LANGUAGE.md that can be seen by a look at it. The source's path is
 * the argument.
 */
public final class FaceTest {
    private static final Checks CHECKS = new Checks("FaceTest");

    private static final Set<String> METHODS = Set.of(
            "int law(int, int, int, int, int, int)", "int force(int, int)", "int ward(int)", "int dies(int, int)",
            "int about(int, int)", "int heads(int)", "int leave(int)", "int ofLeave(int, int)",
            "int receive(int, int, int)", "int pay(int, int, int)", "int vouch(int, boolean)",
            "int challenge(int, boolean)", "int barred(int)", "int let(int, int, int, int)", "int isVoid(int)",
            "int arrears(int, int)", "int pot(int)", "int account(int, int)", "int pass(int)",
            "int passed(int, int)", "int open()", "int told(int)");

    private static final Set<String> CONSTANTS = Set.of("NONE", "UNKNOWN", "OUTSIDE", "STATE", "FULL", "NO", "LOST");

    /** What the rules forbid; and throw, try and catch, as the document names no exception. */
    private static final List<String> UNWANTED = List.of("import ", "package ", "try ", "catch", "throw", "finally",
            "->", "::", "synchronized", "assert ", "Exact", "static {");

    public static void main(String[] args) throws IOException {
        face();
        privateNames();
        nestedClasses();
        source(Files.readString(Path.of(args[0])));
        CHECKS.end();
    }

    private static String signature(Method method) {
        List<String> types = new ArrayList<>();
        for (Class<?> type : method.getParameterTypes()) {
            types.add(type.getName());
        }
        return method.getReturnType().getName() + " " + method.getName() + "(" + String.join(", ", types) + ")";
    }

    private static void face() {
        CHECKS.part("the face");
        Class<?> court = WardCourt.class;
        CHECKS.holds("public and final", court.getModifiers() == (Modifier.PUBLIC | Modifier.FINAL));
        CHECKS.due("constructors", court.getDeclaredConstructors().length, 1);
        for (Constructor<?> constructor : court.getDeclaredConstructors()) {
            CHECKS.due("modifiers of the constructor", constructor.getModifiers(), Modifier.PUBLIC);
            CHECKS.due("its parameters", constructor.getParameterCount(), 0);
        }
        Set<String> methods = new TreeSet<>();
        for (Method method : court.getDeclaredMethods()) {
            if (!Modifier.isPrivate(method.getModifiers())) {
                CHECKS.holds(signature(method) + " is of the face", METHODS.contains(signature(method)));
                CHECKS.due("modifiers of " + method.getName(), method.getModifiers(), Modifier.PUBLIC);
                methods.add(signature(method));
            }
        }
        CHECKS.due("public methods", methods.size(), METHODS.size());
        int constants = 0;
        for (Field field : court.getDeclaredFields()) {
            if (!Modifier.isPrivate(field.getModifiers())) {
                CHECKS.holds(field.getName() + " is of the face", CONSTANTS.contains(field.getName()));
                CHECKS.due("modifiers of " + field.getName(), field.getModifiers(),
                        Modifier.PUBLIC | Modifier.STATIC | Modifier.FINAL);
                constants++;
            }
        }
        CHECKS.due("public constants", constants, CONSTANTS.size());
    }

    private static void privateNames() {
        CHECKS.part("rule 1, private names");
        Set<String> publicNames = new TreeSet<>();
        for (Method method : WardCourt.class.getDeclaredMethods()) {
            if (Modifier.isPublic(method.getModifiers())) {
                publicNames.add(method.getName());
            }
        }
        List<Class<?>> classes = new ArrayList<>(List.of(WardCourt.class.getDeclaredClasses()));
        classes.add(WardCourt.class);
        for (Class<?> each : classes) {
            for (Method method : each.getDeclaredMethods()) {
                if (Modifier.isPrivate(method.getModifiers())) {
                    CHECKS.holds(each.getName() + "." + method.getName() + " is no name of the face",
                            !publicNames.contains(method.getName()));
                }
            }
        }
    }

    private static void nestedClasses() {
        CHECKS.part("rules 1, 5 and 11");
        Class<?>[] nested = WardCourt.class.getDeclaredClasses();
        CHECKS.holds("at most twelve classes", nested.length < 12);
        for (Class<?> each : nested) {
            CHECKS.holds(each.getName() + " is static", Modifier.isStatic(each.getModifiers()));
            CHECKS.holds(each.getName() + " is not public", !Modifier.isPublic(each.getModifiers()));
            CHECKS.holds("fields of " + each.getName(), each.getDeclaredFields().length <= 20);
            for (Method method : each.getDeclaredMethods()) {
                CHECKS.holds("parameters of " + method.getName(), method.getParameterCount() <= 7);
            }
        }
        for (Field field : WardCourt.class.getDeclaredFields()) {
            boolean isLoose = Modifier.isStatic(field.getModifiers()) && !Modifier.isFinal(field.getModifiers());
            CHECKS.holds(field.getName() + " is final if static", !isLoose);
        }
    }

    private static void source(String text) {
        CHECKS.part("the source");
        for (String word : UNWANTED) {
            CHECKS.holds("nowhere " + word.trim(), !text.contains(word));
        }
        boolean isPlain = true;
        for (int n = 0; n < text.length(); n++) {
            isPlain &= text.charAt(n) < 128;
        }
        CHECKS.holds("signs 0 to 127 alone", isPlain);
    }
}
