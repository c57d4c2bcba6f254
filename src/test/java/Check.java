/** Counts the answers that are not as due; each test makes one and ends with it. */
final class Check {
    private static final int MOST_PRINTED = 50;
    private final String name;
    private int made;
    private int wrong;

    Check(String name) {
        this.name = name;
    }

    void due(String what, long got, long want) {
        made++;
        if (got != want) {
            wrong++;
            if (wrong <= MOST_PRINTED) {
                System.out.println(name + ": " + what + " answered " + got + ", due is " + want);
            }
        }
    }

    void holds(String what, boolean held) {
        due(what, held ? 1 : 0, 1);
    }

    void end() {
        System.out.println(name + ": " + (made - wrong) + " of " + made + " answers as due");
        if (wrong != 0 || made == 0) {
            System.exit(1);
        }
    }
}
