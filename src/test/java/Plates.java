/** Plates that several tests begin with, and everything that a plate tells. */
final class Plates {
    private Plates() {
    }

    /**
     * The row 10 of roots 0 to 10; with STICK 4 a grain let go at the rim beside a grain sticks without a step. The
     * grains 11 to 14 go up the column 0 (cells 99, 88, 77, 66), 15 and 16 up the column 10 (cells 109, 98).
     */
    static RimGrains twoStems() {
        RimGrains x = new RimGrains();
        x.begin(1);
        for (int rim = 31; rim <= 34; rim++) {
            x.go(rim);
        }
        x.go(19);
        x.go(18);
        return x;
    }

    /** All 40 cells of the rim: from the root 0 up the column 0, along the row 0, and down the column 10. */
    static RimGrains fullRim() {
        RimGrains x = new RimGrains();
        x.begin(1);
        for (int rim = 31; rim < 40; rim++) {
            x.go(rim);
        }
        for (int rim = 0; rim < 20; rim++) {
            x.go(rim);
        }
        return x;
    }

    /** The greatest plate with forks that the tests use. */
    static RimGrains grown() {
        RimGrains x = new RimGrains();
        x.set(RimGrains.WIND, 2);
        x.set(RimGrains.PATIENCE, 200);
        for (int i = 0; i < 20; i++) {
            x.rain(20);
        }
        return x;
    }

    static void type(RimGrains x, String text) {
        for (int i = 0; i < text.length(); i++) {
            x.append(text.charAt(i));
        }
    }

    /** All that undo, save and restore are about: no pad, no history, no why(). */
    static String state(RimGrains x) {
        StringBuilder all = new StringBuilder();
        for (int what = 0; what <= 17; what++) {
            all.append(x.count(what)).append(' ');
        }
        for (int grain = 0; grain < x.count(0); grain++) {
            all.append(x.grain(grain, 0)).append(':').append(x.grain(grain, 1)).append(':');
            all.append(x.grain(grain, 8)).append(' ');
        }
        for (int cell = 0; cell < 121; cell++) {
            all.append(x.cell(cell, 0)).append(' ');
        }
        return all.toString();
    }

    static String everything(RimGrains x) {
        StringBuilder all = new StringBuilder(state(x));
        all.append('|').append(x.count(18)).append(' ').append(x.count(19)).append(' ').append(x.fault());
        for (int what = 0; what <= 2; what++) {
            all.append(' ').append(x.why(what));
        }
        return all.toString();
    }
}
