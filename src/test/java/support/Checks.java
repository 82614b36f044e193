/** Counts answers that are not as due, and ends the test with exit code 1 if there was one. */
final class Checks {
    private final String name;
    private int wrong;
    private int all;

    Checks(String name) {
        this.name = name;
    }

    void due(String call, long want, long got) {
        all++;
        if (got != want) {
            wrong++;
            if (wrong <= 40) {
                System.out.println(name + ": " + call + " answered " + got + ", due is " + want);
            }
        }
    }

    void due(String what, boolean holds) {
        due(what, 1, holds ? 1 : 0);
    }

    int wrong() {
        return wrong;
    }

    void close() {
        System.out.println(name + ": " + all + " checks, " + wrong + " wrong");
        if (wrong != 0) {
            System.exit(1);
        }
    }
}
