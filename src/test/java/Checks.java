/** Counts and prints the answers that are not as due; a test's main ends with {@link #finish}. */
final class Checks {
    private String name;
    private int made;
    private int wrong;

    Checks(String name) {
        this.name = name;
    }

    /** The name that stands before the faults from here on. */
    void begin(String newName) {
        name = newName;
    }

    int made() {
        return made;
    }

    void due(String call, int got, int want) {
        made++;
        if (got != want) {
            wrong++;
            System.out.println(name + ": " + call + " answered " + got + ", due is " + want);
        }
    }

    void holds(String claim, boolean isTrue) {
        due(claim, isTrue ? 1 : 0, 1);
    }

    void finish() {
        System.out.println(name + ": " + made + " checks, " + wrong + " wrong");
        if (wrong != 0 || made == 0) {
            System.exit(1);
        }
    }
}
