/** Counts what was asked and what was answered otherwise than is due; a test ends by end(). */
final class Due {
    private static int asked = 0;
    private static int wrong = 0;
    private static int promise = 0;

    private Due() {
    }

    /** The promise that the next ones are about. */
    static void promise(int number) {
        promise = number;
    }

    static void is(String call, long got, long want) {
        asked++;
        if (got != want) {
            wrong++;
            System.out.println("promise " + promise + ": " + call + " answered " + got + ", due is " + want);
        }
    }

    static void is(String call, boolean got, boolean want) {
        is(call, got ? 1 : 0, want ? 1 : 0);
    }

    /** Each of some answers, told one behind another. */
    static void are(String calls, long[] got, long... want) {
        is(calls + ": how many", got.length, want.length);
        for (int i = 0; i < Math.min(got.length, want.length); i++) {
            is(calls + " [" + i + "]", got[i], want[i]);
        }
    }

    static void end(String name) {
        System.out.println(name + ": " + asked + " answers, " + wrong + " not as due");
        if (wrong != 0 || asked == 0) {
            System.exit(1);
        }
    }
}
