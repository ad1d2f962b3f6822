/** Counts the answers that are not as due and tells each of them. */
final class Checks {
    private final String name;
    private String part = "";
    private int checked;
    private int wrong;

    Checks(String name) {
        this.name = name;
    }

    /** What is checked next, for what is told of a wrong answer. */
    void part(String next) {
        part = next;
    }

    void due(String what, long got, long want) {
        checked++;
        if (got != want) {
            wrong++;
            System.out.println(name + ", " + part + ": " + what + " answered " + got + ", due is " + want);
        }
    }

    void holds(String what, boolean is) {
        due(what, is ? 1 : 0, 1);
    }

    /** Tells the sum, and ends the program with 1 if an answer was wrong. */
    void end() {
        System.out.println(name + ": " + checked + " checked, " + wrong + " wrong");
        if (wrong != 0 || checked == 0) {
            System.exit(1);
        }
    }
}
