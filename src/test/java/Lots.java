/** The rule by which lots are drawn, told again, and lots that lead where a test wants. */
final class Lots {
    private Lots() {
    }

    static int next(int lot) {
        return (int) ((421L * lot + 1663L) % 10000L);
    }

    static int after(int lot, int draws) {
        int then = lot;
        for (int i = 0; i < draws; i++) {
            then = next(then);
        }
        return then;
    }

    /**
     * The first lot behind which the drawn ones have these remainders. Wanted are pairs: a divisor and the remainder
     * by it; so (4, 1, 7, 0) asks for one lot with the remainder 1 by 4, then one with the remainder 0 by 7.
     */
    static int leadingTo(int... wanted) {
        for (int lot = 0; lot < 10000; lot++) {
            if (leads(lot, wanted)) {
                return lot;
            }
        }
        throw new IllegalStateException("no lot leads there");
    }

    private static boolean leads(int lot, int[] wanted) {
        int then = lot;
        for (int i = 0; i < wanted.length; i += 2) {
            then = next(then);
            if (then % wanted[i] != wanted[i + 1]) {
                return false;
            }
        }
        return true;
    }
}
