/** Counts the answers that are not as due, and says which. */
final class Checks {
    private final String name;
    private int asked = 0;
    private int wrong = 0;

    Checks(String name) {
        this.name = name;
    }

    void due(String call, long got, long want) {
        asked++;
        if (got != want) {
            wrong++;
            System.out.println(name + ": " + call + " answered " + got + ", due is " + want);
        }
    }

    void holds(String what, boolean held) {
        asked++;
        if (!held) {
            wrong++;
            System.out.println(name + ": not so: " + what);
        }
    }

    int wrong() {
        return wrong;
    }

    /** Ends the test: with exit code 1 if an answer was wrong, or if nothing was asked. */
    void end() {
        System.out.println(name + ": " + asked + " answers, " + wrong + " wrong");
        if (wrong != 0 || asked == 0) {
            System.exit(1);
        }
    }
}
