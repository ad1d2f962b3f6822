import java.io.IOException;
import java.lang.reflect.Method;
import java.lang.reflect.Modifier;
import java.nio.file.Files;
import java.nio.file.Path;
import java.util.ArrayList;
import java.util.List;
import java.util.Map;
import java.util.Set;
import java.util.TreeMap;
import java.util.TreeSet;
import java.util.regex.Matcher;
import java.util.regex.Pattern;
import java.util.stream.Stream;

/**
 * README.md holds: its calls and terms are told in the document's words, what it
 * tells to be taken is taken and one beyond is refused, its constants are those
 * of the class, its example uses every call, and every test is named in it. The
 * paths of README.md and of the document are the arguments.
 */
public final class ReadmeTest {
    private static final Checks CHECKS = new Checks("ReadmeTest");
    private static final Pattern PROMISE = Pattern.compile("`([^`]*)`: (.*)");
    private static final Pattern PARAMETER = Pattern.compile("(?:int|boolean) (\\w+)");
    private static final Pattern TAKEN = Pattern.compile("`(\\w+)` (.+)");
    private static final Pattern RANGE = Pattern.compile("(-?\\d+) to (-?\\d+)");
    private static final int PROMISES = 23;

    private final Readme readme;
    private final String document;

    private ReadmeTest(String readmePath, String documentPath) throws IOException {
        readme = new Readme(readmePath);
        document = Files.readString(Path.of(documentPath));
    }

    public static void main(String[] args) throws IOException, ReflectiveOperationException {
        ReadmeTest test = new ReadmeTest(args[0], args[1]);
        test.quotes();
        test.callsInItsWords();
        test.numbersTaken();
        test.constants();
        test.exampleUsesEveryCall();
        test.everyTestIsNamed();
        CHECKS.end();
    }

    private void quotes() {
        CHECKS.part("What the words mean, Refusals");
        String terms = part("## Terms", "The constants:");
        String left = terms;
        for (String heading : List.of("What the words mean", "Refusals")) {
            for (String quote : readme.quotes(heading)) {
                CHECKS.holds("the document says: " + quote, terms.contains(quote));
                left = left.replace(quote, "");
            }
        }
        String unsaid = left.replaceAll("(?m)^(## Terms|======== [123]|```text|```)", "").strip();
        CHECKS.holds("all of the document's terms stand here, but for: " + unsaid, unsaid.isEmpty());
    }

    private String part(String from, String to) {
        int begins = document.indexOf(from);
        int ends = document.indexOf(to, Math.max(begins, 0));
        return begins >= 0 && ends >= 0 ? document.substring(begins, ends) : "";
    }

    /** By a call's declaration, what the document promises of it. */
    private Map<String, String> promises() {
        Map<String, String> promises = new TreeMap<>();
        for (String line : document.split("\n")) {
            Matcher promise = PROMISE.matcher(line);
            if (promise.matches()) {
                promises.put(promise.group(1), promise.group(2));
            }
        }
        return promises;
    }

    private void callsInItsWords() {
        CHECKS.part("The calls, answers and refused");
        Map<String, String> promises = promises();
        CHECKS.due("promises of the document", promises.size(), PROMISES);
        CHECKS.due("rows", readme.rows("The calls").size(), PROMISES);
        Set<String> told = new TreeSet<>();
        for (String[] row : readme.rows("The calls")) {
            CHECKS.due("cells of " + row[0], row.length, 4);
            String declared = row[0].replace("`", "");
            String words = row[3].equals("never") ? row[2] : row[2] + " " + row[3];
            CHECKS.holds(declared + " in the document's words", words.equals(promises.get(declared)));
            told.add(declared);
        }
        CHECKS.holds("each call once", told.equals(promises.keySet()));
    }

    private void numbersTaken() throws ReflectiveOperationException {
        CHECKS.part("The calls, takes");
        for (String[] row : readme.rows("The calls")) {
            if (row[0].contains("int ")) {
                takesOf(row[0], row[1]);
            }
        }
    }

    /** One call: each of its arguments at both ends and beyond them, the others as they are taken. */
    private static void takesOf(String declared, String taken) throws ReflectiveOperationException {
        List<String> names = new ArrayList<>();
        Matcher parameter = PARAMETER.matcher(declared.substring(declared.indexOf('(')));
        while (parameter.find()) {
            names.add(parameter.group(1));
        }
        List<String> takes = new ArrayList<>();
        List<String> named = new ArrayList<>();
        for (String each : taken.equals("nothing") ? new String[0] : taken.split(", ")) {
            Matcher one = TAKEN.matcher(each);
            CHECKS.holds(declared + " takes " + each, one.matches());
            named.add(one.matches() ? one.group(1) : "");
            takes.add(one.matches() ? one.group(2) : "");
        }
        CHECKS.holds(declared + " takes " + names, named.equals(names));
        for (int n = 0; n < takes.size() && named.equals(names); n++) {
            edgesOf(declared, takes, n);
        }
    }

    private static void edgesOf(String declared, List<String> takes, int which) throws ReflectiveOperationException {
        String take = takes.get(which);
        Matcher range = RANGE.matcher(take);
        int least = 0;
        int most = 0;
        if (range.matches()) {
            least = Integer.parseInt(range.group(1));
            most = Integer.parseInt(range.group(2));
        } else if (take.equals("a number or -1")) {
            least = -1;
        } else if (take.equals("true or false")) {
            CHECKS.holds(declared, call(declared, takes, which, 0) >= 0 && call(declared, takes, which, 1) >= 0);
            return;
        } else {
            CHECKS.holds(declared + " takes " + take, take.equals("a number"));
        }
        CHECKS.holds(declared + " takes " + least, !isRefused(call(declared, takes, which, least)));
        CHECKS.holds(declared + " takes " + most, !isRefused(call(declared, takes, which, most)));
        CHECKS.holds(declared + " refuses " + (least - 1), isRefused(call(declared, takes, which, least - 1)));
        CHECKS.holds(declared + " refuses " + (most + 1), isRefused(call(declared, takes, which, most + 1)));
    }

    /** Calls on a new court that holds one of each, all but one argument as they are taken. */
    private static int call(String declared, List<String> takes, int which, int number)
            throws ReflectiveOperationException {
        WardCourt court = new WardCourt();
        court.ward(-10800);
        court.leave(50);
        court.let(0, 1, 1, -1);
        // So much that the pot, then below 0, does not look like a refusal.
        court.pay(0, 50, -1);
        for (int year = 0; year < 10; year++) {
            court.pass(year);
        }
        Object[] arguments = new Object[takes.size()];
        for (int n = 0; n < arguments.length; n++) {
            Matcher range = RANGE.matcher(takes.get(n));
            int given = n == which ? number : range.matches() ? Integer.parseInt(range.group(1)) : 0;
            arguments[n] = takes.get(n).equals("true or false") ? (Object) (given != 0) : (Object) given;
        }
        String name = declared.substring("`int ".length(), declared.indexOf('('));
        for (Method method : WardCourt.class.getMethods()) {
            if (method.getName().equals(name) && method.getParameterCount() == arguments.length) {
                return (int) method.invoke(court, arguments);
            }
        }
        CHECKS.holds(declared + " is a call of the class", false);
        return 0;
    }

    private static boolean isRefused(int answer) {
        int refusal = answer <= WardCourt.LOST ? answer - WardCourt.LOST : answer;
        return refusal <= WardCourt.UNKNOWN && refusal >= WardCourt.NO;
    }

    private void constants() throws ReflectiveOperationException {
        CHECKS.part("Refusals, constants");
        Set<String> told = new TreeSet<>();
        for (String[] row : readme.rows("Refusals")) {
            String name = row[0].replace("`", "");
            CHECKS.due(name, Integer.parseInt(row[1]), WardCourt.class.getField(name).getInt(null));
            told.add(name);
        }
        CHECKS.due("constants", told.size(), WardCourt.class.getFields().length);
    }

    private void exampleUsesEveryCall() {
        CHECKS.part("How to use it");
        String code = String.join("\n", readme.code("How to use it"));
        for (Method method : WardCourt.class.getDeclaredMethods()) {
            if (!method.isSynthetic() && Modifier.isPublic(method.getModifiers())) {
                CHECKS.holds("uses " + method.getName(), code.contains("court." + method.getName() + "("));
            }
        }
        for (String refusal : List.of("UNKNOWN", "OUTSIDE", "STATE", "FULL", "NO:", "LOST + ")) {
            CHECKS.holds("shows " + refusal, code.contains("// " + refusal));
        }
    }

    private void everyTestIsNamed() throws IOException {
        CHECKS.part("How to run its tests");
        Set<String> named = new TreeSet<>();
        for (String[] row : readme.rows("How to run its tests")) {
            String name = row[0].replace("`", "");
            CHECKS.holds(name + " is run by its name", row[1].contains(" " + name));
            named.add(name);
        }
        for (String folder : List.of("src/test/java", "../shared/tests")) {
            try (Stream<Path> files = Files.list(Path.of(folder))) {
                for (Path file : files.toList()) {
                    String name = file.getFileName().toString().replace(".java", "");
                    boolean isTest = name.endsWith("Test") || folder.startsWith("..");
                    CHECKS.holds(name + " is named", !isTest || named.contains(name));
                }
            }
        }
    }
}
