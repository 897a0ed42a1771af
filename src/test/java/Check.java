/** Counts the answers that are not the ones that are due, and prints them. */
final class Check {
    private static int wrong = 0;
    private static int looked = 0;

    private Check() {
    }

    static void due(String what, double got, double want) {
        looked++;
        if (got != want) {
            wrong++;
            System.out.println(what + " answered " + got + ", due is " + want);
        }
    }

    static void holds(String what, boolean holds) {
        looked++;
        if (!holds) {
            wrong++;
            System.out.println(what + " does not hold");
        }
    }

    static int wrongSoFar() {
        return wrong;
    }

    /** Ends the program, with the exit code 1 if an answer was wrong or none was looked at. */
    static void end(String name) {
        System.out.println(name + ": " + looked + " answers, " + wrong + " wrong");
        System.exit(wrong == 0 && looked > 0 ? 0 : 1);
    }
}
