/** Promises 14 to 21: cell, grain, screens, ring, apart, longest, count, density. */
public final class LooksTest {
    private LooksTest() {
    }

    public static void main(String[] args) {
        cell();
        cellsOfTheRim();
        cellRefuses();
        grainOnStems();
        grainSums();
        grainRefuses();
        screensOfTheMiddle();
        screensAround();
        screensRefuses();
        ring();
        apart();
        longest();
        longestBothWays();
        count();
        countOfWalks();
        countOfCatches();
        density();
        looksChangeNothing();
        Check.end("LooksTest");
    }

    private static void cell() {
        Grains x = Plates.twoStems();
        Check.due("a root's cell", x.cell(115, 0), 5);
        Check.due("a grain's cell", x.cell(98, 0), 16);
        Check.due("no grain", x.cell(60, 0), -4);
        int[] cells = {60, 49, 48, 36, 24, 12, 0, 120, 65, 55, 5, 114, 59, 62, 10, 110};
        int[] rings = {0, 1, 1, 2, 3, 4, 5, 5, 5, 5, 5, 5, 1, 2, 5, 5};
        for (int i = 0; i < cells.length; i++) {
            Check.due("ring of " + cells[i], x.cell(cells[i], 1), rings[i]);
        }
        Check.due("nothing around", x.cell(60, 2), 0);
        Check.due("a stem's grain", x.cell(88, 2), 2);
        Check.due("a stem's tip", x.cell(66, 2), 1);
        Check.due("beside the stem and above the row", x.cell(100, 2), 2);
        Check.due("the corner of the row", x.cell(110, 2), 2);
        Check.due("no neighbours over the edge", x.cell(87, 2), 1);
        Check.due("above the tip", x.cell(55, 2), 1);
        Check.due("left end of a row, right end has a grain", x.cell(76, 2), 0);
        x.begin(2);
        Check.due("a corner in the circle", x.cell(48, 2), 2);
        Check.due("outside, aslant of the corner", x.cell(24, 2), 0);
        Check.due("outside, above the corner", x.cell(25, 2), 1);
    }

    private static void cellsOfTheRim() {
        Grains x = new Grains();
        int onRim = 0;
        for (int cell = 0; cell <= 120; cell++) {
            int row = cell / 11;
            int column = cell % 11;
            int want = row == 0 ? column : column == 10 ? 10 + row : row == 10 ? 30 - column
                    : column == 0 ? 40 - row : -4;
            Check.due("rim of " + cell, x.cell(cell, 3), want);
            onRim += want >= 0 ? 1 : 0;
        }
        Check.due("cells of the rim", onRim, 40);
        int[] cells = {0, 10, 21, 120, 119, 110, 99, 11};
        int[] rims = {0, 10, 11, 20, 21, 30, 31, 39};
        for (int i = 0; i < cells.length; i++) {
            Check.due("rim of " + cells[i], x.cell(cells[i], 3), rims[i]);
        }
    }

    private static void cellRefuses() {
        Grains x = new Grains();
        Check.due("cell(-1, 0)", x.cell(-1, 0), -1);
        Check.due("cell(121, 1)", x.cell(121, 1), -1);
        Check.due("cell(MIN, 2)", x.cell(Integer.MIN_VALUE, 2), -1);
        Check.due("cell(MAX, 3)", x.cell(Integer.MAX_VALUE, 3), -1);
        Check.due("cell(0, -1)", x.cell(0, -1), -1);
        Check.due("cell(0, 4)", x.cell(0, 4), -1);
    }

    private static void grainOnStems() {
        Grains x = Plates.twoStems();
        int[][] want = {
            {110, -4, 0, 1, 5, 4, 1, 0, 0},
            {111, -4, 0, 0, 1, 0, 2, 1, 0},
            {120, -4, 0, 1, 3, 2, 1, 10, 0},
            {99, 0, 1, 1, 4, 3, 1, 0, 0},
            {66, 13, 4, 0, 1, 0, 3, 0, 0},
            {109, 10, 1, 1, 2, 1, 1, 10, 0},
            {98, 15, 2, 0, 1, 0, 2, 10, 0}};
        int[] grains = {0, 1, 10, 11, 14, 15, 16};
        for (int i = 0; i < grains.length; i++) {
            for (int what = 0; what <= 8; what++) {
                Check.due("grain(" + grains[i] + ", " + what + ")", x.grain(grains[i], what), want[i][what]);
            }
        }
    }

    /** What must fit together on any plate with forks. */
    private static void grainSums() {
        Grains x = Plates.grown();
        Check.due("the root's tree", x.grain(0, 4), x.count(0));
        Check.due("the root's height", x.grain(0, 5), x.count(4));
        int holds = 0;
        int tips = 0;
        int forks = 0;
        int steps = 0;
        for (int grain = 0; grain < x.count(0); grain++) {
            int holder = x.grain(grain, 1);
            if (grain > 0) {
                Check.holds("the holder has a lesser number", holder >= 0 && holder < grain);
                Check.due("depth", x.grain(grain, 2), x.grain(holder, 2) + 1);
                Check.holds("height", x.grain(holder, 5) > x.grain(grain, 5));
                int way = Math.abs(x.grain(grain, 0) - x.grain(holder, 0));
                Check.holds("beside its holder", way == 1 || way == 11);
            }
            Check.due("cell and grain", x.cell(x.grain(grain, 0), 0), grain);
            Check.due("root", x.grain(grain, 7), 0);
            holds += x.grain(grain, 3);
            tips += x.grain(grain, 3) == 0 ? 1 : 0;
            forks += x.grain(grain, 3) >= 2 ? 1 : 0;
            steps += x.grain(grain, 8);
        }
        Check.due("holds", holds, x.count(0) - 1);
        Check.due("tips", tips, x.count(2));
        Check.due("forks", forks, x.count(3));
        Check.holds("steps of grains and of lost ones", steps > 0 && steps < x.count(10));
    }

    private static void grainRefuses() {
        Grains x = Plates.twoStems();
        Check.due("grain(-1, 0)", x.grain(-1, 0), -1);
        Check.due("grain(17, 0)", x.grain(17, 0), -1);
        Check.due("grain(121, 1)", x.grain(121, 1), -1);
        Check.due("grain(MAX, 1)", x.grain(Integer.MAX_VALUE, 1), -1);
        Check.due("grain(0, -1)", x.grain(0, -1), -1);
        Check.due("grain(0, 9)", x.grain(0, 9), -1);
        Check.due("no holder rather than wrong", x.grain(0, 1), -4);
        x.breakOff(16);
        Check.due("the number that is gone", x.grain(16, 0), -1);
    }

    private static void screensOfTheMiddle() {
        Grains x = new Grains();
        for (int rim = 0; rim < 40; rim++) {
            boolean straight = rim == 5 || rim == 15 || rim == 25 || rim == 35;
            Check.due("screens(" + rim + ")", x.screens(rim), straight ? 0 : -4);
        }
    }

    private static void screensAround() {
        Grains x = Plates.twoStems();
        Check.due("column 0: the tip of the stem", x.screens(0), 14);
        Check.due("column 1: its root", x.screens(1), 1);
        Check.due("column 10, by the row: the other tip", x.screens(10), 16);
        Check.due("row 1: nothing", x.screens(11), -4);
        Check.due("row 6 from the right: over the plate", x.screens(16), 14);
        Check.due("row 8 from the right: at once", x.screens(18), 16);
        Check.due("corner, by the row: itself", x.screens(20), 10);
        Check.due("row 10", x.screens(25), 5);
        Check.due("corner", x.screens(30), 0);
        Check.due("row 9 from the left", x.screens(31), 11);
        Check.due("row 6 from the left", x.screens(34), 14);
        Check.due("row 5 from the left", x.screens(35), -4);
        Check.due("row 1 from the left", x.screens(39), -4);
        x.begin(2);
        Check.due("the circle from above", x.screens(3), 0);
        Check.due("from the right", x.screens(13), 4);
        Check.due("from below", x.screens(25), 13);
        Check.due("from the left", x.screens(35), 7);
        Check.due("its lower corner from below", x.screens(27), 11);
        Check.due("its lower corner from the left", x.screens(33), 11);
        Check.due("beside it", x.screens(2), -4);
        Grains tees = Plates.doubleT();
        for (int corner = 0; corner <= 30; corner += 10) {
            Check.due("the corner " + corner + " looks along its column", tees.screens(corner), -4);
        }
        for (int i = 1; i <= 9; i++) {
            Check.due("from the right", tees.screens(10 + i), tees.cell(11 * i + 5, 0));
            Check.due("from the left", tees.screens(40 - i), tees.cell(11 * i + 5, 0));
            Check.due("at once above", tees.screens(i), tees.cell(i, 0));
            Check.due("at once below", tees.screens(30 - i), tees.cell(110 + i, 0));
        }
        Grains y = new Grains();
        y.begin(1);
        y.go(19);
        y.go(18);
        Check.due("the corner 20 looks up from its own root", y.screens(20), 10);
        Check.due("row 9 from the left, over the plate", y.screens(31), 11);
        Check.due("row 8 from the left", y.screens(32), 12);
        Grains z = Plates.fullRim();
        for (int rim = 0; rim < 40; rim++) {
            Check.due("full rim: each cell itself", z.screens(rim), z.cell(z.grain(z.screens(rim), 0), 0));
            Check.due("full rim: each cell itself", z.cell(z.grain(z.screens(rim), 0), 3), rim);
        }
    }

    private static void screensRefuses() {
        Grains x = new Grains();
        Check.due("screens(-1)", x.screens(-1), -1);
        Check.due("screens(40)", x.screens(40), -1);
        Check.due("screens(MIN)", x.screens(Integer.MIN_VALUE), -1);
    }

    private static void ring() {
        Grains x = Plates.twoStems();
        Check.due("ring(5)", x.ring(5), 17);
        Check.due("ring(4)", x.ring(4), 0);
        Check.due("ring(0)", x.ring(0), 0);
        Check.due("ring(-1)", x.ring(-1), -1);
        Check.due("ring(6)", x.ring(6), -1);
        Grains y = Plates.grown();
        int grains = 0;
        for (int ring = 0; ring <= 5; ring++) {
            grains += y.ring(ring);
        }
        Check.due("all rings", grains, y.count(0));
        Check.due("ring(0)", y.ring(0), 1);
        Check.holds("others", y.ring(1) > 0 && y.ring(2) > 0);
        x.begin(2);
        Check.due("the circle", x.ring(2), 16);
        Check.due("nothing within", x.ring(1) + x.ring(0), 0);
    }

    private static void apart() {
        Grains x = Plates.twoStems();
        Check.due("itself", x.apart(14, 14), 0);
        Check.due("a root itself", x.apart(3, 3), 0);
        Check.due("holder", x.apart(14, 13), 1);
        Check.due("the other way", x.apart(13, 14), 1);
        Check.due("up the stem", x.apart(0, 14), 4);
        Check.due("down the stem", x.apart(14, 0), 4);
        Check.due("other roots", x.apart(14, 16), -4);
        Check.due("neighbouring roots", x.apart(0, 1), -4);
        Check.due("apart(-1, 0)", x.apart(-1, 0), -1);
        Check.due("apart(0, -1)", x.apart(0, -1), -1);
        Check.due("apart(17, 0)", x.apart(17, 0), -1);
        Check.due("apart(0, 17)", x.apart(0, 17), -1);
        Check.due("wrong rather than other roots", x.apart(17, 17), -1);
        Grains y = Plates.doubleT();
        Check.due("over the root", y.apart(1, 6), 2);
        Check.due("over the upper fork", y.apart(14, 18), 8);
        Check.due("over the upper fork, back", y.apart(18, 14), 8);
        Check.due("over all", y.apart(14, 22), 18);
        Check.due("to the fork", y.apart(26, 10), 4);
    }

    private static void longest() {
        Grains x = new Grains();
        Check.due("a root alone", x.longest(0), 0);
        Check.due("a root alone", x.longest(1), 0);
        Check.due("longest(-1)", x.longest(-1), -1);
        Check.due("longest(2)", x.longest(2), -1);
        x = Plates.twoStems();
        Check.due("the higher stem", x.longest(0), 4);
        Check.due("the higher stem", x.longest(1), 4);
        x = Plates.fullRim();
        Check.due("the full rim", x.longest(0), 29);
        Check.due("the full rim", x.longest(1), 29);
        x = Plates.doubleT();
        longestIs(x, 18);
        x.breakOff(23);
        longestIs(x, 18);
        x.breakOff(19);
        longestIs(x, 14);
        x.breakOff(16);
        longestIs(x, 14);
        x.breakOff(6);
        longestIs(x, 9);
        x.begin(2);
        Check.due("roots alone", x.longest(0), 0);
        Check.due("roots alone", x.longest(1), 0);
    }

    private static void longestIs(Grains x, int longest) {
        Check.due("longest(0)", x.longest(0), longest);
        Check.due("longest(1)", x.longest(1), longest);
    }

    private static void longestBothWays() {
        Grains x = Plates.grown();
        int longest = 0;
        for (int one = 0; one < x.count(0); one++) {
            for (int other = 0; other < x.count(0); other++) {
                longest = Math.max(longest, x.apart(one, other));
            }
        }
        Check.holds("longer than any depth", longest > x.count(4));
        Check.due("longest(0)", x.longest(0), longest);
        Check.due("longest(1)", x.longest(1), longest);
        while (x.wash() > 0) {
            Check.due("the same both ways", x.longest(0), x.longest(1));
        }
    }

    private static void count() {
        Grains x = Plates.twoStems();
        int[] want = {17, 11, 11, 0, 4, 5, 15, 6, 0, 0, 0, 3, 14, 4, 60, 0, 2};
        for (int what = 0; what < want.length; what++) {
            Check.due("count(" + what + ")", x.count(what), want[what]);
        }
        Check.due("the pad", x.count(18), 0);
        Check.due("the history", x.count(19), 4);
        Check.due("count(-1)", x.count(-1), -1);
        Check.due("count(20)", x.count(20), -1);
        Check.due("count(MAX)", x.count(Integer.MAX_VALUE), -1);
        x.begin(2);
        int[] circle = {16, 16, 16, 0, 0, 2, 28};
        for (int what = 0; what < circle.length; what++) {
            Check.due("circle count(" + what + ")", x.count(what), circle[what]);
        }
        x.begin(1);
        Check.due("above the row", x.count(6), 11);
        x.begin(0);
        Check.due("around the middle", x.count(6), 4);
        Check.due("a root alone is a tip", x.count(2), 1);
        int[] tees = {27, 1, 4, 3, 9, 5, 34, 26, 0, 0, 6 + 5 + 2 + 1 + 8 + 7 + 6 + 1, 2, 0, 4, 60, 4, 0};
        Grains y = Plates.doubleT();
        for (int what = 0; what < tees.length; what++) {
            Check.due("tees count(" + what + ")", y.count(what), tees[what]);
        }
    }

    private static void countOfWalks() {
        Grains x = new Grains();
        x.go(5);
        x.go(5);
        x.go(5);
        Check.due("let go", x.count(7), 3);
        Check.due("lost", x.count(8), 3);
        Check.due("steps", x.count(10), 1 + 60 + 60);
        x = Plates.doubleT();
        x.breakOff(6);
        Check.due("steps stay when grains are gone", x.count(10), 36);
        Check.due("let go stays", x.count(7), 26);
        Check.due("gone", x.count(9), 13);
        Check.due("lost is not gone", x.count(8), 0);
    }

    private static void countOfCatches() {
        Grains x = new Grains();
        Check.due("the middle catches four", x.count(11), 4);
        Check.due("the middle", x.count(12), 0);
        x.begin(1);
        Check.due("the roots of the row catch two", x.count(11), 2);
        Check.due("the lowest of them", x.count(12), 0);
        x.begin(2);
        Check.due("corners of the circle catch two", x.count(11), 2);
        Check.due("the lowest of them", x.count(12), 0);
        x = Plates.fullRim();
        Check.due("the full rim catches one each", x.count(11), 1);
        Check.due("the lowest of them", x.count(12), 0);
        x = Plates.doubleT();
        x.breakOff(2);
        Check.due("the middle, from the left and the right", x.grain(0, 6), 2);
        Check.due("the grain above, from above too", x.grain(1, 6), 3);
        Check.due("the most", x.count(11), 3);
        Check.due("the lowest with it", x.count(12), 1);
        int catches = 0;
        for (int grain = 0; grain < x.count(0); grain++) {
            catches += x.grain(grain, 6);
        }
        int met = 0;
        for (int rim = 0; rim < 40; rim++) {
            met += x.screens(rim) >= 0 ? 1 : 0;
        }
        Check.due("all catches", catches, met);
    }

    private static void density() {
        Grains x = new Grains();
        Check.dueDouble("the middle", x.density(), 1.0);
        x.begin(1);
        Check.dueDouble("the row", x.density(), 11.0 / 121.0);
        x.begin(2);
        Check.dueDouble("the circle", x.density(), 0.64);
        x.begin(0);
        x.set(RimGrains.WIND, 4);
        x.lot(0);
        x.go(5);
        Check.dueDouble("two", x.density(), 2.0 / 9.0);
        x = Plates.grown();
        int width = 2 * x.count(5) + 1;
        Check.dueDouble("grown", x.density(), (double) x.count(0) / (double) (width * width));
    }

    private static void looksChangeNothing() {
        Grains x = Plates.grown();
        Plates.type(x, "w;b0");
        x.carryOut();
        Plates.type(x, "g1;");
        String before = Plates.everything(x);
        for (int i = -1; i <= 121; i++) {
            x.screens(i);
            x.ring(i);
            x.longest(i);
            x.count(i);
            for (int what = -1; what <= 9; what++) {
                x.cell(i, what);
                x.grain(i, what);
                x.apart(i, what);
            }
        }
        x.density();
        Check.holds("looks change nothing", before.equals(Plates.everything(x)));
    }
}
