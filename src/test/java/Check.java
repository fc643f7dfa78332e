/** Counts answers that are as due, and prints those that are not. */
final class Check {
    private static int promise;
    private static int right;
    private static int wrong;

    private Check() {
    }

    static void promise(int number) {
        promise = number;
    }

    static void due(String what, long got, long want) {
        if (got == want) {
            right++;
        } else {
            wrong++;
            System.out.println("promise " + promise + ": " + what + " answered " + got + ", due is " + want);
        }
    }

    static void due(String what, boolean holds) {
        due(what, holds ? 1 : 0, 1);
    }

    /** Ends the program: with 1 if an answer was not as due, or if none was asked for. */
    static void finish() {
        System.out.println(right + " answers are as due, " + wrong + " are not");
        if (wrong != 0 || right == 0) {
            System.exit(1);
        }
    }
}
