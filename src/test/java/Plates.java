/** Plates that several tests begin with, and everything that a plate tells. */
final class Plates {
    /** The cells of the rim, by their numbers on it. */
    static final int[] RIM = {
        0, 1, 2, 3, 4, 5, 6, 7, 8, 9, 10,
        21, 32, 43, 54, 65, 76, 87, 98, 109, 120,
        119, 118, 117, 116, 115, 114, 113, 112, 111, 110,
        99, 88, 77, 66, 55, 44, 33, 22, 11};

    private Plates() {
    }

    /**
     * The row 10 of roots 0 to 10; with STICK 4 a grain let go at the rim beside a grain sticks without a step. The
     * grains 11 to 14 go up the column 0 (cells 99, 88, 77, 66), 15 and 16 up the column 10 (cells 109, 98).
     */
    static Grains twoStems() {
        Grains x = new Grains();
        x.begin(1);
        for (int rim = 31; rim <= 34; rim++) {
            x.go(rim);
        }
        x.go(19);
        x.go(18);
        return x;
    }

    /** All 40 cells of the rim: from the root 0 up the column 0, along the row 0, and down the column 10. */
    static Grains fullRim() {
        Grains x = new Grains();
        x.begin(1);
        for (int rim = 31; rim < 40; rim++) {
            x.go(rim);
        }
        for (int rim = 0; rim < 20; rim++) {
            x.go(rim);
        }
        return x;
    }

    /**
     * The column 5 from the middle up (grains 1 to 5, the cells 49, 38, 27, 16, 5) and down (6 to 10, the cells 71,
     * 82, 93, 104, 115); then along the row 0 to the left (11 to 14, the cells 4 to 1) and to the right (15 to 18, the
     * cells 6 to 9), along the row 10 to the right (19 to 22, the cells 116 to 119) and to the left (23 to 26, the
     * cells 114 to 111). With the WIND 4 and the lot 0 each grain of the column comes straight enough.
     */
    static Grains doubleT() {
        Grains x = new Grains();
        x.set(RimGrains.WIND, 4);
        for (int i = 0; i < 10; i++) {
            if (i % 5 == 0) {
                x.set(RimGrains.WAY, i == 0 ? 2 : 0);
            }
            x.lot(0);
            x.go(i < 5 ? 5 : 25);
        }
        for (int i = 1; i <= 4; i++) {
            x.go(5 - i);
        }
        for (int i = 1; i <= 4; i++) {
            x.go(5 + i);
        }
        for (int i = 1; i <= 4; i++) {
            x.go(25 - i);
        }
        for (int i = 1; i <= 4; i++) {
            x.go(25 + i);
        }
        return x;
    }

    /**
     * The row 5 from the middle to the right (grains 1 to 5, the cells 61 to 65) and to the left (6 to 10, the cells
     * 59 to 55); then along the column 10 up (11 to 14, the cells 54 to 21) and down (15 to 18, the cells 76 to 109),
     * along the column 0 up (19 to 22, the cells 44 to 11) and down (23 to 26, the cells 66 to 99): no corner.
     */
    static Grains lyingT() {
        return Built.plate(0, 61, 62, 63, 64, 65, 59, 58, 57, 56, 55, 54, 43, 32, 21, 76, 87, 98, 109, 44, 33, 22, 11,
                66, 77, 88, 99);
    }

    /**
     * Something of everything: grains and roots, a history of 4 states, another plate as the snapshot, settings and
     * counts that are not the first ones, a deed that stopped, and a whole text on the pad.
     */
    static Grains busy() {
        Grains x = new Grains();
        x.begin(1);
        x.go(31);
        x.go(32);
        x.lot(4321);
        x.save();
        x.set(RimGrains.WIND, 3);
        x.set(RimGrains.STICK, 3);
        x.rain(9);
        x.go(19);
        x.breakOff(12);
        type(x, "w;g18;b0;w");
        x.carryOut();
        type(x, "g17;w;b11");
        return x;
    }

    /** The same without a history. */
    static Grains busyAndUndone() {
        Grains x = busy();
        for (int i = 0; i < 4; i++) {
            x.undo();
        }
        return x;
    }

    /** The same with a text that is not complete. */
    static Grains busyWithOpenPad() {
        Grains x = busy();
        x.append(';');
        return x;
    }

    /** The same with a text of 60 signs, that is complete. */
    static Grains busyWithFullPad() {
        Grains x = busy();
        x.clear();
        type(x, "w;".repeat(29) + "b0");
        return x;
    }

    /** The greatest plate with forks that the tests use. */
    static Grains grown() {
        Grains x = new Grains();
        x.set(RimGrains.WIND, 2);
        x.set(RimGrains.PATIENCE, 200);
        for (int i = 0; i < 20; i++) {
            x.rain(20);
        }
        return x;
    }

    /** The direction in which one is off the plate at once; corners by the row. */
    static int outward(int rim) {
        return rim <= 10 ? 0 : rim <= 19 ? 1 : rim <= 30 ? 2 : 3;
    }

    static void type(Grains x, String text) {
        for (int i = 0; i < text.length(); i++) {
            x.append(text.charAt(i));
        }
    }

    /** All that undo, save and restore are about: no pad, no history, no why(). */
    static String state(Grains x) {
        StringBuilder all = new StringBuilder();
        for (int what = 0; what <= 17; what++) {
            all.append(x.count(what)).append(' ');
        }
        for (int grain = 0; grain < x.count(0); grain++) {
            all.append(x.grain(grain, 0)).append(':').append(x.grain(grain, 1)).append(':');
            all.append(x.grain(grain, 8)).append(' ');
        }
        for (int cell = 0; cell < 121; cell++) {
            all.append(x.cell(cell, 0)).append(' ');
        }
        return all.toString();
    }

    static String everything(Grains x) {
        StringBuilder all = new StringBuilder(state(x));
        all.append('|').append(x.count(18)).append(' ').append(x.count(19)).append(' ').append(x.fault());
        for (int what = 0; what <= 2; what++) {
            all.append(' ').append(x.why(what));
        }
        return all.toString();
    }
}
