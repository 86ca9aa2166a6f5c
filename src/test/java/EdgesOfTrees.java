import java.util.Arrays;

/** The terms: grains, holders, trees, beginnings. */
final class EdgesOfTrees {
    private EdgesOfTrees() {
    }

    static void run() {
        grainOrNone();
        numbers();
        numbersAnew();
        holders();
        depths();
        trees();
        tipsAndForks();
        beginnings();
    }

    private static void grainOrNone() {
        Doc.says("Grains", "A cell has a grain or none.");
        Grains x = new Grains();
        Check.due("one cell with a grain", x.cell(60, 0), 0);
        Check.due("the one before it without", x.cell(59, 0), -4);
        Check.due("the one behind it without", x.cell(61, 0), -4);
        Grains full = Built.full();
        Check.due("all cells with grains", full.count(0), 121);
        for (int rim = 0; rim < 40; rim++) {
            Check.due("no second grain to the rim " + rim, full.go(rim), -2);
        }
    }

    private static void numbers() {
        Doc.says("Grains", "Grains are numbered from 0 in the order in which they came to stay");
        int[] cells = {60, 71, 49, 61, 59};
        Grains x = Built.plate(0, 71, 49, 61, 59);
        for (int i = 0; i < cells.length; i++) {
            Check.due("cell of the grain " + i, x.grain(i, 0), cells[i]);
            Check.due("grain of the cell " + cells[i], x.cell(cells[i], 0), i);
        }
        x = Built.plate(2, 35, 24);
        Check.due("behind the last root", x.grain(16, 0), 35);
        Check.due("and behind that", x.grain(17, 0), 24);
    }

    private static void numbersAnew() {
        Doc.says("Grains",
                "(when some are broken off or washed away, the others keep their order, and get numbers from 0"
                + " on anew).");
        Grains first = Built.plate(0, 71, 49, 61, 59);
        first.breakOff(1);
        cellsAre("without the first", first, 60, 49, 61, 59);
        Grains between = Built.plate(0, 71, 49, 61, 59);
        between.breakOff(2);
        cellsAre("without one between", between, 60, 71, 61, 59);
        Grains last = Built.plate(0, 71, 49, 61, 59);
        last.breakOff(4);
        cellsAre("without the last", last, 60, 71, 49, 61);
        Grains two = Built.plate(0, 71, 49, 82, 61, 59);
        two.breakOff(1);
        cellsAre("without the first and the third", two, 60, 49, 61, 59);
        Grains washed = Built.plate(0, 49, 71, 38, 82, 39);
        washed.wash();
        cellsAre("without the tips", washed, 60, 49, 71, 38);
        Check.due("the holder's new number", washed.grain(3, 1), 1);
        washed.begin(0);
        cellsAre("a beginning numbers from 0 too", washed, 60);
        stepsAndHoldersGoAlong();
    }

    /** The grains 6 to 10 of the column below the middle made 8, 7, 6, 1 and 0 steps. */
    private static void stepsAndHoldersGoAlong() {
        Grains x = Plates.doubleT();
        x.breakOff(1);
        int[] steps = {8, 7, 6, 1, 0};
        for (int i = 0; i < steps.length; i++) {
            Check.due("the new number of a grain of the column", x.grain(1 + i, 0), 71 + 11 * i);
            Check.due("its steps go along", x.grain(1 + i, 8), steps[i]);
            Check.due("so does its holder", x.grain(1 + i, 1), i);
        }
    }

    private static void cellsAre(String plate, Grains x, int... cells) {
        Check.due(plate + ": grains", x.count(0), cells.length);
        for (int i = 0; i < cells.length; i++) {
            Check.due(plate + ": cell of " + i, x.grain(i, 0), cells[i]);
            Check.due(plate + ": grain of the cell " + cells[i], x.cell(cells[i], 0), i);
        }
        Check.due(plate + ": no grain behind the last", x.grain(cells.length, 0), -1);
        int found = 0;
        for (int cell = 0; cell <= 120; cell++) {
            found += x.cell(cell, 0) == -4 ? 0 : 1;
        }
        Check.due(plate + ": cells with a grain", found, cells.length);
    }

    private static void holders() {
        Doc.says("Grains",
                "A grain is a root, or holds on to another grain in a neighbouring cell, its holder, which has"
                + " a lesser number.");
        Grains x = Built.full();
        for (int grain = 0; grain <= 120; grain++) {
            int holder = x.grain(grain, 1);
            if (grain <= 10) {
                Check.due("the root " + grain, holder, -4);
            } else {
                int way = Math.abs(x.grain(grain, 0) - x.grain(holder, 0));
                Check.holds("the holder of " + grain + " came before it", holder >= 0 && holder < grain);
                Check.holds("the holder of " + grain + " is beside it", way == 11
                        || way == 1 && x.grain(grain, 0) / 11 == x.grain(holder, 0) / 11);
            }
        }
    }

    private static void depths() {
        Doc.says("Grains", "The depth of a root is 0, of another grain 1 more than that of its holder.");
        Grains x = Plates.fullRim();
        for (int root = 0; root <= 10; root++) {
            Check.due("the root " + root, x.grain(root, 2), 0);
        }
        for (int grain = 11; grain <= 39; grain++) {
            Check.due("around the rim, grain " + grain, x.grain(grain, 2), grain - 10);
        }
        Check.due("the greatest depth", x.count(4), 29);
        x = Built.plate(0, 49, 38, 71);
        Check.due("of the second on the first", x.grain(2, 2), 2);
        Check.due("of another one on the root", x.grain(3, 2), 1);
    }

    private static void trees() {
        Doc.says("Grains", "The tree of a grain are this grain and all that hold on to grains of its tree.");
        Grains x = Built.plate(0, 49, 38, 71, 27, 39, 82);
        int[] members = {7, 4, 3, 2, 1, 1, 1};
        int[] heights = {3, 2, 1, 1, 0, 0, 0};
        for (int grain = 0; grain < 7; grain++) {
            Check.due("tree of " + grain, x.grain(grain, 4), members[grain]);
            Check.due("height of " + grain, x.grain(grain, 5), heights[grain]);
            Check.due("root of " + grain, x.grain(grain, 7), 0);
        }
        Check.due("only this tree is broken off", x.breakOff(2), 3);
        Check.due("and others are left", x.count(0), 4);
    }

    private static void tipsAndForks() {
        Doc.says("Grains", "A tip is a grain to which none holds on; a fork one to which two or more hold on.");
        int[] cells = {49, 71, 59, 61};
        int[] tips = {1, 1, 2, 3, 4};
        int[] forks = {0, 0, 1, 1, 1};
        for (int i = 0; i <= 4; i++) {
            Grains x = Built.plate(0, Arrays.copyOf(cells, i));
            Check.due(i + " hold on to the middle", x.grain(0, 3), i);
            Check.due("tips", x.count(2), tips[i]);
            Check.due("forks", x.count(3), forks[i]);
        }
        Grains chain = Built.plate(0, 49, 38, 27);
        Check.due("a chain has one tip", chain.count(2), 1);
        Check.due("and no fork", chain.count(3), 0);
        Grains rows = Built.plate(1, 99);
        Check.due("roots without a grain are tips", rows.count(2), 11);
        Check.due("the root with one is none, nor a fork", rows.count(3), 0);
    }

    private static void beginnings() {
        Doc.says("Grains",
                "A beginning has roots alone: 0: the middle; 1: the cells of the row 10, from the left to the"
                + " right; 2: the cells of which the greater one of the differences of rows and of columns to the"
                + " middle is"
                + " 2 (by ascending numbers).");
        int[][] roots = {
            {60},
            {110, 111, 112, 113, 114, 115, 116, 117, 118, 119, 120},
            {36, 37, 38, 39, 40, 47, 51, 58, 62, 69, 73, 80, 81, 82, 83, 84}};
        for (int beginning = 0; beginning <= 2; beginning++) {
            Grains x = Built.full();
            x.begin(beginning);
            cellsAre("the beginning " + beginning, x, roots[beginning]);
            Check.due("all are roots", x.count(1), roots[beginning].length);
            Check.due("all are tips", x.count(2), roots[beginning].length);
            Check.due("none is deep", x.count(4), 0);
            for (int root = 0; root < roots[beginning].length; root++) {
                Check.due("a root has no holder", x.grain(root, 1), -4);
                Check.due("a root leads to itself", x.grain(root, 7), root);
                Check.due("a root had no walk", x.grain(root, 8), 0);
            }
        }
        Doc.says("Grains", "At first it is 0.");
        cellsAre("at first", new Grains(), roots[0]);
    }
}
