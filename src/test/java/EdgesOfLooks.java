import java.util.Arrays;
import java.util.function.ToIntFunction;

/** Promises 14 to 21: cell, grain, screens, ring, apart, longest, count, density. */
final class EdgesOfLooks {
    private static final int MIN = Integer.MIN_VALUE;
    private static final int MAX = Integer.MAX_VALUE;
    private static final int NONE = -4;

    private EdgesOfLooks() {
    }

    static void run() {
        cell();
        cellRefuses();
        grain();
        grainOfAFullPlate();
        grainRefuses();
        screens();
        ring();
        apart();
        apartRefuses();
        longest();
        counts();
        countOfFreeCells();
        countOfWalks();
        countOfPadAndHistory();
        countRefuses();
        density();
        looksChangeNothing();
    }

    private static void cell() {
        Doc.says("Promise 14", "Returns a property of a cell.");
        Doc.says("Promise 14",
                "`what`: 0: its grain, NOT_FOUND without one; 1: its ring; 2: how many neighbouring cells"
                + " have grains; 3: its number on the rim, NOT_FOUND if it is not on it");
        int[] cells = {49, 71, 59, 61};
        for (int i = 0; i <= 4; i++) {
            Check.due(i + " beside the middle", Built.plate(0, Arrays.copyOf(cells, i)).cell(60, 2), i);
        }
        Grains x = Built.plate(0, 49);
        cellIs(x, 60, 0, 0, 1, NONE);
        cellIs(x, 49, 1, 1, 1, NONE);
        cellIs(x, 38, NONE, 2, 1, NONE);
        cellIs(x, 0, NONE, 5, 0, 0);
        cellIs(x, 10, NONE, 5, 0, 10);
        cellIs(x, 110, NONE, 5, 0, 30);
        cellIs(x, 120, NONE, 5, 0, 20);
        cellIs(x, 11, NONE, 5, 0, 39);
        cellIs(x, 12, NONE, 4, 0, NONE);
        cellIs(x, 108, NONE, 4, 0, NONE);
        x = Built.full();
        cellIs(x, 0, 110, 5, 2, 0);
        cellIs(x, 120, 10, 5, 2, 20);
        cellIs(x, 60, 60, 0, 4, NONE);
        cellIs(x, 1, 111, 5, 3, 1);
    }

    private static void cellIs(Grains x, int cell, int... properties) {
        for (int what = 0; what <= 3; what++) {
            Check.due("cell(" + cell + ", " + what + ")", x.cell(cell, what), properties[what]);
        }
    }

    private static void cellRefuses() {
        Doc.says("Promise 14", "`cell`: 0 to 120");
        Doc.says("Promise 14", "Returns the number; INVALID_ARGUMENT.");
        Grains[] plates = {new Grains(), Built.full()};
        for (Grains x : plates) {
            for (int what = 0; what <= 3; what++) {
                for (int cell : new int[] {-1, 121, MIN, MAX}) {
                    Check.due("cell(" + cell + ", " + what + ")", x.cell(cell, what), -1);
                }
            }
            for (int what : new int[] {-1, 4, MIN, MAX}) {
                for (int cell : new int[] {-1, 0, 60, 120, 121}) {
                    Check.due("cell(" + cell + ", " + what + ")", x.cell(cell, what), -1);
                }
            }
        }
    }

    private static void grain() {
        Doc.says("Promise 15", "Returns a property of a grain.");
        Doc.says("Promise 15",
                "`what`: 0: its cell; 1: its holder, NOT_FOUND for a root; 2: its depth; 3: how many grains"
                + " hold on to it; 4: how many grains its tree has; 5: the greatest depth in its tree, less its own; 6:"
                + " its catch; 7: the root to which its holders lead, itself if it is one; 8: the steps of its walk, 0"
                + " for a root");
        grainIs(new Grains(), 0, 60, NONE, 0, 0, 1, 0, 4, 0, 0);
        Grains x = Built.plate(2, 35, 24, 34, 85, 96, 95);
        grainIs(x, 0, 36, NONE, 0, 1, 4, 2, 1, 0, 0);
        grainIs(x, 15, 84, NONE, 0, 2, 4, 2, 0, 15, 0);
        grainIs(x, 16, 35, 0, 1, 2, 3, 1, 1, 0, x.grain(16, 8));
        grainIs(x, 17, 24, 16, 2, 0, 1, 0, 3, 0, x.grain(17, 8));
        grainIs(x, 20, 96, 19, 2, 0, 1, 0, 2, 15, x.grain(20, 8));
        Check.due("above and beside grains, the one above holds", x.grain(21, 1), 15);
        Grains walked = new Grains();
        walked.set(RimGrains.WIND, 2);
        walked.set(RimGrains.WAY, 0);
        walked.set(RimGrains.PATIENCE, 10);
        walked.lot(882);
        walked.go(15);
        Check.due("as many steps as PATIENCE tells", walked.grain(1, 8), 10);
        walked.lot(882);
        walked.go(4);
        Check.due("they stay when others walk", walked.grain(1, 8), 10);
    }

    private static void grainIs(Grains x, int grain, int... properties) {
        for (int what = 0; what <= 8; what++) {
            Check.due("grain(" + grain + ", " + what + ")", x.grain(grain, what), properties[what]);
        }
    }

    private static void grainOfAFullPlate() {
        Grains x = Built.full();
        grainIs(x, 0, 110, NONE, 0, 1, 11, 10, 1, 0, 0);
        grainIs(x, 10, 120, NONE, 0, 1, 11, 10, 1, 10, 0);
        grainIs(x, 11, 99, 0, 1, 1, 10, 9, 1, 0, x.grain(11, 8));
        grainIs(x, 120, 10, 109, 10, 0, 1, 0, 1, 10, 0);
        grainIs(x, 60, 60, 49, 5, 1, 6, 5, 0, 5, x.grain(60, 8));
    }

    private static void grainRefuses() {
        Doc.says("Promise 15", "`grain`: a grain");
        Doc.says("Promise 15", "Returns the number; INVALID_ARGUMENT.");
        Grains[] plates = {new Grains(), Built.plate(1, 99), Built.full()};
        int[] grains = {1, 12, 121};
        for (int i = 0; i < plates.length; i++) {
            for (int what = 0; what <= 8; what++) {
                for (int grain : new int[] {-1, grains[i], MIN, MAX}) {
                    Check.due("grain(" + grain + ", " + what + ")", plates[i].grain(grain, what), -1);
                }
            }
            for (int what : new int[] {-1, 9, MIN, MAX}) {
                for (int grain : new int[] {-1, 0, grains[i] - 1, grains[i]}) {
                    Check.due("grain(" + grain + ", " + what + ")", plates[i].grain(grain, what), -1);
                }
            }
        }
    }

    private static void screens() {
        Doc.says("Promise 16", "Returns the grain that screens at a cell of the rim.");
        Doc.says("Promise 16", "`rim`: 0 to 39");
        Doc.says("Promise 16", "Returns the grain; INVALID_ARGUMENT; NOT_FOUND if none does.");
        Grains[] plates = {new Grains(), Built.full()};
        for (Grains x : plates) {
            for (int rim : new int[] {-1, 40, MIN, MAX}) {
                Check.due("screens(" + rim + ")", x.screens(rim), -1);
            }
        }
        Check.due("none at the first cell", plates[0].screens(0), NONE);
        Check.due("none at the last cell", plates[0].screens(39), NONE);
        Check.due("the first cell", plates[1].screens(0), 110);
        Check.due("the last cell", plates[1].screens(39), 99);
        Check.due("the lowest grain", plates[1].screens(30), 0);
        Check.due("the greatest grain", plates[1].screens(10), 120);
    }

    private static void ring() {
        Doc.says("Promise 17", "Returns how many grains there are in a ring.");
        Doc.says("Promise 17", "`ring`: 0 to 5");
        Doc.says("Promise 17", "Returns how many; INVALID_ARGUMENT.");
        int[][] grains = {{1, 0, 0, 0, 0, 0}, {0, 0, 0, 0, 0, 11}, {0, 0, 16, 0, 0, 0}};
        for (int beginning = 0; beginning <= 2; beginning++) {
            Grains x = Built.plate(beginning);
            for (int ring = 0; ring <= 5; ring++) {
                Check.due("begin(" + beginning + "), ring(" + ring + ")", x.ring(ring), grains[beginning][ring]);
            }
            for (int ring : new int[] {-1, 6, MIN, MAX}) {
                Check.due("ring(" + ring + ")", x.ring(ring), -1);
            }
        }
        Check.due("aslant of the middle", Built.plate(0, 49, 48).ring(1), 2);
    }

    private static void apart() {
        Doc.says("Promise 18",
                "Returns how far apart two grains are in the trees: over how many holds one goes from the"
                + " one to the other.");
        Doc.says("Promise 18", "Returns how many; INVALID_ARGUMENT; NOT_FOUND if their roots are not the same.");
        Grains x = Plates.fullRim();
        for (int grain = 0; grain <= 39; grain++) {
            Check.due("itself", x.apart(grain, grain), 0);
            int holds = grain == 0 ? 0 : grain <= 10 ? NONE : grain - 10;
            Check.due("apart(0, " + grain + ")", x.apart(0, grain), holds);
            Check.due("apart(" + grain + ", 0)", x.apart(grain, 0), holds);
        }
        Check.due("a root in the neighbouring cell of the last grain", x.apart(39, 10), NONE);
        x = Built.full();
        Check.due("up a column", x.apart(10, 120), 10);
        Check.due("in the neighbouring columns", x.apart(120, 119), NONE);
        x = Built.plate(0, 49, 71, 59, 61, 38, 82);
        Check.due("over the root", x.apart(1, 2), 2);
        Check.due("beside each other, over the root", x.apart(3, 4), 2);
        Check.due("from end to end", x.apart(5, 6), 4);
        Check.due("to a lesser depth", x.apart(6, 3), 3);
    }

    private static void apartRefuses() {
        Doc.says("Promise 18", "`one`: a grain");
        Doc.says("Promise 18", "`other`: a grain");
        Grains[] plates = {new Grains(), Built.plate(1, 99), Built.full()};
        int[] grains = {1, 12, 121};
        for (int i = 0; i < plates.length; i++) {
            for (int wrong : new int[] {-1, grains[i], MIN, MAX}) {
                for (int right : new int[] {0, grains[i] - 1, -1, grains[i]}) {
                    Check.due("apart(" + wrong + ", " + right + ")", plates[i].apart(wrong, right), -1);
                    Check.due("apart(" + right + ", " + wrong + ")", plates[i].apart(right, wrong), -1);
                }
            }
        }
    }

    private static void longest() {
        Doc.says("Promise 19", "Returns the longest way in the trees: the greatest apart() of two grains.");
        Doc.says("Promise 19", "`way`: 0: told by all pairs of grains; 1: told by the two highest trees on each grain");
        Doc.says("Promise 19", "Returns the length (the same for both); INVALID_ARGUMENT.");
        longestIs("a root", new Grains(), 0);
        longestIs("a row of roots", Built.plate(1), 0);
        longestIs("a circle of roots", Built.plate(2), 0);
        longestIs("two grains", Built.plate(0, 49), 1);
        longestIs("three, over the root", Built.plate(0, 49, 71), 2);
        longestIs("three, in a row", Built.plate(0, 49, 38), 2);
        longestIs("two of the same height", Built.plate(0, 49, 38, 71, 82), 4);
        longestIs("the third tree is no part of it", Built.plate(0, 49, 38, 71, 82, 59, 58), 4);
        longestIs("not over the root", Built.plate(0, 49, 38, 37, 36, 39, 40), 4);
        longestIs("not over the root, and longer than any depth",
                Built.plate(0, 49, 38, 37, 36, 35, 39, 40, 41), 6);
        longestIs("the higher tree came first", Built.plate(0, 49, 38, 71), 3);
        longestIs("the higher tree came last", Built.plate(0, 71, 49, 38), 3);
        longestIs("the lowest of three came first", Built.plate(0, 59, 49, 38, 71, 82), 4);
        longestIs("the lowest of three came between", Built.plate(0, 49, 38, 59, 71, 82), 4);
        longestIs("the longer of two trees", Built.plate(1, 99, 88, 109), 2);
        longestIs("the later of two trees", Built.plate(1, 99, 109, 98), 2);
        longestIs("the lying tee", Plates.lyingT(), 18);
        longestIs("the standing tee", Plates.doubleT(), 18);
        longestIs("around the rim", Plates.fullRim(), 29);
        longestIs("a full plate", Built.full(), 10);
        longestOfFewer();
        for (int way : new int[] {-1, 2, MIN, MAX}) {
            Check.due("longest(" + way + ")", new Grains().longest(way), -1);
            Check.due("longest(" + way + ")", Built.full().longest(way), -1);
        }
    }

    /** Asked of one plate that loses grains, so that nothing of an earlier way may be left. */
    private static void longestOfFewer() {
        Grains x = Plates.lyingT();
        longestIs("all", x, 18);
        x.breakOff(26);
        longestIs("over the other branch", x, 18);
        x.breakOff(22);
        longestIs("without both ends on the left", x, 17);
        x.breakOff(6);
        longestIs("without the left half", x, 9);
        x.breakOff(2);
        longestIs("the middle and one beside it", x, 1);
        x.wash();
        longestIs("the middle alone", x, 0);
        x = Built.plate(0, 49, 71);
        longestIs("over the root", x, 2);
        x.wash();
        longestIs("both washed away at once", x, 0);
    }

    private static void longestIs(String plate, Grains x, int longest) {
        Check.due(plate + ", longest(0)", x.longest(0), longest);
        Check.due(plate + ", longest(1)", x.longest(1), longest);
        int greatest = 0;
        for (int one = 0; one < x.count(0); one++) {
            for (int other = 0; other < x.count(0); other++) {
                greatest = Math.max(greatest, x.apart(one, other));
            }
        }
        Check.due(plate + ", the greatest apart()", greatest, longest);
    }

    private static void counts() {
        Doc.says("Promise 20", "Returns a number.");
        Doc.says("Promise 20", "`what`: 0: grains; 1: roots; 2: tips; 3: forks; 4: the greatest depth; 5: the reach;");
        Doc.says("Promise 20",
                "11: the greatest catch; 12: the lowest grain with it; 13 to 16: the settings 0 to 3; 17:"
                + " the lot;");
        countsAre("a new object", new Grains(), 1, 1, 1, 0, 0, 0, 4, 0, 0, 0, 0, 4, 0, 4, 60, 0, 2, 1, 0, 0);
        countsAre("a row", Built.plate(1), 11, 11, 11, 0, 0, 5, 11, 0, 0, 0, 0, 2, 0);
        countsAre("a circle", Built.plate(2), 16, 16, 16, 0, 0, 2, 28, 0, 0, 0, 0, 2, 0);
        countsAre("a full plate", Built.full(), 121, 11, 11, 0, 10, 5, 0, 110, 0, 0);
        countsAre("three forks", Built.plate(0, 49, 38, 37, 39, 71, 82, 81, 83, 59), 10, 1, 5, 3, 3, 2);
        Grains x = Plates.lyingT();
        x.breakOff(11);
        countsAre("a lying tee with a piece off", x, 23, 1, 3, 2, 9, 5);
        x = Built.full();
        Check.due("the greatest catch of a full plate", x.count(11), 1);
        Check.due("the lowest with it is the lowest of all", x.count(12), 0);
        x = Plates.busy();
        int[] settings = {3, 60, 3, 2};
        for (int what = 0; what <= 3; what++) {
            Check.due("setting " + what, x.count(13 + what), settings[what]);
        }
        x.lot(9999);
        Check.due("the greatest lot", x.count(17), 9999);
        x.lot(0);
        Check.due("the least lot", x.count(17), 0);
    }

    private static void countsAre(String plate, Grains x, int... counts) {
        for (int what = 0; what < counts.length; what++) {
            Check.due(plate + ", count(" + what + ")", x.count(what), counts[what]);
        }
    }

    private static void countOfFreeCells() {
        Doc.says("Promise 20", "6: cells without a grain that have a neighbouring cell with one;");
        Grains x = Built.full();
        Check.due("a full plate", x.count(6), 0);
        x.breakOff(120);
        Check.due("one free cell", x.count(6), 1);
        x.wash();
        Check.due("a free row", x.count(6), 11);
        x.wash();
        Check.due("two free rows: only the lower one is beside grains", x.count(6), 11);
        Check.due("a cell beside two grains counts once", Built.plate(0, 49, 48).count(6), 7);
        Check.due("no cells beyond the edge", Built.plate(0, 49, 38, 27, 16, 5).count(6), 13);
        Check.due("nor around it", Built.plate(1, 109, 98).count(6), 12);
    }

    private static void countOfWalks() {
        Doc.says("Promise 20",
                "7: grains let go so far since the beginning; 8: those that were lost; 9: those that were"
                + " broken off or washed away; 10: steps of all walks so far;");
        Grains x = new Grains();
        x.lot(Lots.leadingTo(4, 0));
        x.go(5);
        walksAre("one that is lost", x, 1, 1, 0, 1);
        x.set(RimGrains.WIND, 2);
        x.set(RimGrains.WAY, 0);
        x.lot(882);
        x.go(15);
        walksAre("one that sticks", x, 2, 1, 0, 11);
        x.go(40);
        walksAre("one that is refused", x, 2, 1, 0, 11);
        x.wash();
        walksAre("washed away", x, 2, 1, 1, 11);
        x.lot(882);
        x.go(15);
        x.breakOff(1);
        walksAre("broken off", x, 3, 1, 2, 21);
        x.wash();
        walksAre("nothing to wash", x, 3, 1, 2, 21);
        Plates.type(x, "b0");
        x.carryOut();
        walksAre("a deed that stops", x, 3, 1, 2, 21);
        x.undo();
        x.undo();
        x.undo();
        walksAre("undone", x, 3, 1, 1, 21);
        x.begin(0);
        walksAre("begun anew", x, 0, 0, 0, 0);
        x.undo();
        walksAre("and not", x, 3, 1, 1, 21);
    }

    private static void walksAre(String when, Grains x, int released, int lost, int gone, int steps) {
        Check.due(when + ", count(7)", x.count(7), released);
        Check.due(when + ", count(8)", x.count(8), lost);
        Check.due(when + ", count(9)", x.count(9), gone);
        Check.due(when + ", count(10)", x.count(10), steps);
    }

    private static void countOfPadAndHistory() {
        Doc.says("Promise 20", "18: the length of the pad; 19: states in the history");
        Grains x = new Grains();
        for (int length = 0; length <= 60; length++) {
            Check.due("count(18)", x.count(18), length);
            x.append('w');
        }
        Check.due("count(18) of a full pad", x.count(18), 60);
        for (int changes = 0; changes <= 6; changes++) {
            Check.due("count(19)", x.count(19), Math.min(changes, 4));
            x.lot(changes);
        }
        for (int left = 3; left >= 0; left--) {
            x.undo();
            Check.due("count(19) behind undo()", x.count(19), left);
        }
    }

    private static void countRefuses() {
        Doc.says("Promise 20", "Returns the number; INVALID_ARGUMENT.");
        for (int what : new int[] {-1, 20, 21, MIN, MAX}) {
            Check.due("new count(" + what + ")", new Grains().count(what), -1);
            Check.due("full plate count(" + what + ")", Built.full().count(what), -1);
            Check.due("busy count(" + what + ")", Plates.busy().count(what), -1);
        }
    }

    private static void density() {
        Doc.says("Terms", "All numbers are whole numbers, but where a double is told.");
        Doc.says("Promise 21", "Returns how thin the trees are.");
        Doc.says("Promise 21",
                "Returns the grains, as a double, divided by the cells of the rings 0 to the reach together.");
        int[] column = {49, 38, 27, 16, 5};
        double[] cells = {1.0, 9.0, 25.0, 49.0, 81.0, 121.0};
        for (int reach = 0; reach <= 5; reach++) {
            Check.dueDouble("a column to the ring " + reach, Built.plate(0, Arrays.copyOf(column, reach)).density(),
                    (reach + 1) / cells[reach]);
        }
        Check.dueDouble("a full plate", Built.full().density(), 1.0);
        Check.dueDouble("the row", Built.plate(1).density(), 11.0 / 121.0);
        Check.dueDouble("the circle", Built.plate(2).density(), 16.0 / 25.0);
        Grains x = Built.full();
        x.breakOff(120);
        Check.dueDouble("all but one", x.density(), 120.0 / 121.0);
    }

    private static void looksChangeNothing() {
        for (int i = -1; i <= 121; i += i < 20 ? 1 : 20) {
            int a = i;
            ToIntFunction<RimGrains> all = x -> {
                int sum = x.screens(a) + x.ring(a) + x.longest(a) + x.count(a) + x.why(a) + x.fault();
                for (int what = -1; what <= 9; what++) {
                    sum += x.cell(a, what) + x.grain(a, what) + x.apart(a, what) + x.ifGone(a, what);
                    sum += x.ifBroken(a, what);
                }
                return sum + (int) x.density();
            };
            Refusal.nothingChanges("all looks at " + i, Plates::busy, all);
        }
    }
}
