/** Counts and prints the answers that are not the ones that are due. */
final class Checks {
    private static int wrong = 0;
    private static int made = 0;
    private static String about = "";

    private Checks() {
    }

    static void about(String what) {
        about = what;
    }

    static void due(String call, long got, long want) {
        made++;
        if (got != want) {
            wrong++;
            System.out.println(about + ": " + call + " answered " + got + ", due is " + want);
        }
    }

    static int wrong() {
        return wrong;
    }

    static void end(String name) {
        System.out.println(name + ": " + made + " checks, " + wrong + " wrong");
        if (wrong != 0) {
            System.exit(1);
        }
    }
}
