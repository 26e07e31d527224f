/** Compares answers with those that are due, tells each one that differs, and ends with code 1 if there was one. */
final class Check {
    private final String name;
    private int made = 0;
    private int wrong = 0;

    Check(String name) {
        this.name = name;
    }

    void same(String what, long got, long due) {
        made++;
        if (got != due) {
            wrong++;
            System.out.println(name + ": " + what + " answered " + got + ", due is " + due);
        }
    }

    void holds(String what, boolean holds) {
        made++;
        if (!holds) {
            wrong++;
            System.out.println(name + ": " + what + " does not hold");
        }
    }

    /** Something was checked, and all of it was as due. */
    boolean isGood() {
        return made > 0 && wrong == 0;
    }

    void end() {
        System.out.println(name + ": " + made + " checks, " + wrong + " wrong");
        if (!isGood()) {
            System.exit(1);
        }
    }
}
