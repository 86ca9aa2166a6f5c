/** Compares answers with what is due; each test program ends by end(). */
final class Check {
    private static int right = 0;
    private static int wrong = 0;

    private Check() {
    }

    static void due(String call, long got, long want) {
        count(got == want, call, String.valueOf(got), String.valueOf(want));
    }

    static void dueDouble(String call, double got, double want) {
        count(got == want, call, String.valueOf(got), String.valueOf(want));
    }

    static void holds(String what, boolean holds) {
        count(holds, what, "false", "true");
    }

    private static void count(boolean fine, String call, String got, String want) {
        if (fine) {
            right++;
            return;
        }
        wrong++;
        if (wrong <= 40) {
            System.out.println(call + " answered " + got + ", due is " + want);
        }
    }

    static void end(String name) {
        System.out.println(name + ": " + right + " answers as due, " + wrong + " not");
        if (wrong != 0 || right == 0) {
            System.exit(1);
        }
    }
}
