import java.io.IOException;
import java.util.List;
import java.util.regex.Matcher;
import java.util.regex.Pattern;

/**
 * Prints a program, ReadmeExample, that runs the example of README.md and holds
 * each call to the answer that stands behind it. README.md's path is the
 * argument. Ends with 1 if a line of the example shows no answer, since it
 * would be held to nothing.
 */
public final class ExampleWriter {
    private static final Pattern MADE = Pattern.compile("WardCourt court = new WardCourt\\(\\);");

    /** A call, kept under a name or not, and its answer: a number, or constants' names. */
    private static final Pattern CALL =
            Pattern.compile("(?:int (\\w+) = )?(court\\.\\w+\\([^()]*\\)); +// (-?\\d+|[A-Z]+(?: \\+ [A-Z]+)*)(?:: .+)?");

    public static void main(String[] args) throws IOException {
        List<String> code = new Readme(args[0]).code("How to use it");
        StringBuilder program = new StringBuilder();
        int made = 0;
        int calls = 0;
        for (String line : code) {
            if (line.isBlank() || line.startsWith("//")) {
                continue;
            }
            Matcher call = CALL.matcher(line);
            if (MADE.matcher(line).matches()) {
                program.append("        ").append(line).append('\n');
                made++;
            } else if (call.matches()) {
                program.append(checked(call.group(1), call.group(2), call.group(3)));
                calls++;
            } else {
                refuse("README.md's example shows no answer here: " + line);
            }
        }
        if (made != 1 || calls == 0) {
            refuse("README.md's example makes " + made + " courts and has " + calls + " calls");
        }
        System.out.print(header() + program + "        checks.end();\n    }\n\n" + asItStands(code) + "}\n");
    }

    private static void refuse(String why) {
        System.err.println(why);
        System.exit(1);
    }

    private static String header() {
        return "public final class ReadmeExample {\n"
                + "    public static void main(String[] args) {\n"
                + "        Checks checks = new Checks(\"ReadmeExample\");\n"
                + "        checks.part(\"README.md\");\n";
    }

    private static String checked(String name, String call, String answer) {
        String due = answer.replaceAll("([A-Z]+)", "WardCourt.$1");
        String kept = name == null ? "" : "        int " + name + " = " + call + ";\n";
        String got = name == null ? call : name;
        return kept + "        checks.due(\"" + call + "\", " + got + ", " + due + ");\n";
    }

    /** The lines as a reader takes them, so that they compile as they stand. */
    private static String asItStands(List<String> code) {
        StringBuilder method = new StringBuilder("    static void asItStands() {\n");
        for (String line : code) {
            method.append("        ").append(line).append('\n');
        }
        return method.append("    }\n").toString();
    }
}
