/** Counts the calls that answered what is due, and prints those that did not. */
final class Due {
    private static int right = 0;
    private static int wrong = 0;

    private Due() { }

    static void is(String call, int got, int want) {
        if (got == want) {
            right++;
        } else {
            wrong++;
            System.out.println(call + " answered " + got + ", due is " + want);
        }
    }

    static boolean anyWrong() {
        return wrong != 0;
    }

    static void finish(String test) {
        System.out.println(test + ": " + right + " answers as due, " + wrong + " not");
        if (wrong != 0) {
            System.exit(1);
        }
    }
}
