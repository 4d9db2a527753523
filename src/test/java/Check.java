/** Counts the answers that are due and those that aren't, and prints the latter. */
final class Check {
    private static int right = 0;
    private static int wrong = 0;

    private Check() { }

    static void due(String call, long got, long want) {
        if (got == want) {
            right++;
            return;
        }
        wrong++;
        System.out.println(call + " answered " + got + ", due is " + want);
    }

    static void holds(String what, boolean found) {
        due(what, found ? 1 : 0, 1);
    }

    /** Prints how it went; true, if nothing was wrong. */
    static boolean report() {
        System.out.println(right + " answers are as due, " + wrong + " are not");
        return wrong == 0 && right > 0;
    }
}
