import java.util.Arrays;

/** The terms: the plate, rings and screens. */
final class EdgesOfPlate {
    private static final int[] STEP = {-11, 1, 11, -1};

    private EdgesOfPlate() {
    }

    static void run() {
        cells();
        middle();
        rim();
        directions();
        stepsAtTheEdges();
        neighbours();
        rings();
        reach();
        lookingIn();
        corners();
        firstMet();
        catches();
    }

    private static void cells() {
        Doc.says("The plate",
                "The plate has 11 rows and 11 columns of cells, numbered from 0, from the top to the bottom"
                + " and from the left to the right; the cell at a row and a column has the number 11 * row + column,"
                + " 0 to"
                + " 120.");
        Grains x = Built.full();
        for (int cell = 0; cell <= 120; cell++) {
            int row = cell / 11;
            Check.due("full plate, grain at " + cell, x.cell(cell, 0), 11 * (10 - row) + cell % 11);
        }
        Check.due("before the first cell", x.cell(-1, 0), -1);
        Check.due("behind the last cell", x.cell(121, 0), -1);
        Grains row = new Grains();
        row.begin(1);
        Check.due("the row 10, column 0", row.grain(0, 0), 110);
        Check.due("the row 10, column 10", row.grain(10, 0), 120);
        Check.due("the end of the row 9 is none of them", row.cell(109, 0), -4);
    }

    private static void middle() {
        Doc.says("The plate", "The middle is the cell 60.");
        Grains x = new Grains();
        Check.due("the root's cell", x.grain(0, 0), 60);
        for (int cell = 0; cell <= 120; cell++) {
            Check.due("grain at " + cell, x.cell(cell, 0), cell == 60 ? 0 : -4);
            Check.due("only the middle has the ring 0", x.cell(cell, 1) == 0 ? 1 : 0, cell == 60 ? 1 : 0);
        }
    }

    private static void rim() {
        Doc.says("The plate",
                "The rim are the 40 cells of the rows 0 and 10 and the columns 0 and 10; they are numbered"
                + " from 0 around: 0 to 10 the row 0 from the left to the right, 11 to 20 the column 10 from the row 1"
                + " down to the row 10, 21 to 30 the row 10 from the column 9 to the column 0, 31 to 39 the column 0"
                + " from"
                + " the row 9 up to the row 1.");
        int[] rimOf = new int[121];
        Arrays.fill(rimOf, -4);
        for (int rim = 0; rim < 40; rim++) {
            rimOf[Plates.RIM[rim]] = rim;
        }
        Grains x = new Grains();
        for (int cell = 0; cell <= 120; cell++) {
            Check.due("cell(" + cell + ", 3)", x.cell(cell, 3), rimOf[cell]);
        }
        for (int rim = 0; rim < 40; rim++) {
            x = new Grains();
            x.lot(Lots.leadingTo(4, Plates.outward(rim)));
            Check.due("off at once from the rim " + rim, x.ifGone(rim, 0), 1);
            Check.due("the cell of the rim " + rim, x.ifGone(rim, 1), Plates.RIM[rim]);
        }
        Check.due("no rim -1", x.ifGone(-1, 1), -1);
        Check.due("no rim 40", x.ifGone(40, 1), -1);
    }

    private static void directions() {
        Doc.says("The plate", "Directions are 0 up, 1 to the right, 2 down, 3 to the left.");
        int[] off = {5, 15, 25, 35};
        for (int direction = 0; direction < 4; direction++) {
            for (int edge = 0; edge < 4; edge++) {
                Grains x = new Grains();
                x.set(RimGrains.PATIENCE, 10);
                x.lot(Lots.leadingTo(4, direction));
                Check.due("a step " + direction + " leads off the edge " + edge, x.ifGone(off[edge], 0) == 1 ? 1 : 0,
                        direction == edge ? 1 : 0);
            }
        }
    }

    /**
     * With the WIND 3 lots go by 7, and any three of them can be found: a step to a cell, back, and off the plate.
     * The cells beside the middle are too far away for a grain to stick.
     */
    private static void stepsAtTheEdges() {
        Doc.says("Grains", "If there is no such cell, it is lost;");
        for (int rim = 0; rim < 40; rim++) {
            int cell = Plates.RIM[rim];
            for (int direction = 0; direction < 4; direction++) {
                String step = "from " + cell + " in the direction " + direction;
                if (leadsOff(cell, direction)) {
                    walkIs(step, rim, 1, cell, direction);
                    continue;
                }
                int next = cell + STEP[direction];
                walkIs(step + " and back", rim, 3, cell, direction, (direction + 2) % 4, Plates.outward(rim));
                for (int then = 0; then < 4; then++) {
                    if (leadsOff(next, then)) {
                        walkIs(step + " and off", rim, 2, next, direction, then);
                    }
                }
            }
        }
    }

    private static boolean leadsOff(int cell, int direction) {
        switch (direction) {
            case 0: return cell <= 10;
            case 1: return cell % 11 == 10;
            case 2: return cell >= 110;
            default: return cell % 11 == 0;
        }
    }

    private static void walkIs(String walk, int rim, int steps, int place, int... directions) {
        int[] wanted = new int[2 * directions.length];
        for (int i = 0; i < directions.length; i++) {
            wanted[2 * i] = 7;
            wanted[2 * i + 1] = directions[i];
        }
        Grains x = new Grains();
        x.set(RimGrains.WIND, 3);
        int lot = Lots.leadingTo(wanted);
        x.lot(lot);
        Check.due(walk + ": steps", x.ifGone(rim, 0), steps);
        Check.due(walk + ": the last cell", x.ifGone(rim, 1), place);
        Check.due(walk + ": lots", x.ifGone(rim, 2), steps);
        Check.due(walk + ": go()", x.go(rim), steps);
        Check.due(walk + ": the lot", x.count(17), Lots.after(lot, steps));
        Check.due(walk + ": lost", x.count(8), 1);
    }

    private static void neighbours() {
        Doc.says("The plate", "Two cells are neighbours, if one is a step in a direction away from the other.");
        Grains x = Built.full();
        for (int cell = 0; cell <= 120; cell++) {
            int edges = (cell / 11 % 10 == 0 ? 1 : 0) + (cell % 11 % 10 == 0 ? 1 : 0);
            Check.due("full plate cell(" + cell + ", 2)", x.cell(cell, 2), 4 - edges);
        }
        x = new Grains();
        for (int cell = 0; cell <= 120; cell++) {
            boolean beside = cell == 49 || cell == 59 || cell == 61 || cell == 71;
            Check.due("middle cell(" + cell + ", 2)", x.cell(cell, 2), beside ? 1 : 0);
        }
        x = Built.plate(1, 109, 98);
        Check.due("99 is not beside 98, at the other end of the row above", x.cell(99, 2), 1);
        Check.due("110 is not beside 109, at the other end of the row above", x.cell(110, 2), 1);
        Check.due("88 is beside no grain", x.cell(88, 2), 0);
        x = Built.plate(1, 99);
        Check.due("98 is not beside 99, at the other end of the row below", x.cell(98, 2), 0);
        Check.due("109 is not beside 110, at the other end of the row below", x.cell(109, 2), 1);
        x = Plates.fullRim();
        Check.due("the corner 0", x.cell(0, 2), 2);
        Check.due("aslant of the corner", x.cell(12, 2), 2);
        Check.due("aslant of two cells of the rim alone", x.cell(24, 2), 0);
    }

    private static void rings() {
        Doc.says("Grains", "Rings, screens The ring of a cell is the greater one of the differences of its row and its"
                + " column to those of the middle, 0 to 5.");
        String[] rows = {
            "55555555555",
            "54444444445",
            "54333333345",
            "54322222345",
            "54321112345",
            "54321012345",
            "54321112345",
            "54322222345",
            "54333333345",
            "54444444445",
            "55555555555"};
        Grains x = Built.full();
        for (int cell = 0; cell <= 120; cell++) {
            Check.due("cell(" + cell + ", 1)", x.cell(cell, 1), rows[cell / 11].charAt(cell % 11) - '0');
        }
        int[] grains = {1, 8, 16, 24, 32, 40};
        for (int ring = 0; ring <= 5; ring++) {
            Check.due("full plate ring(" + ring + ")", x.ring(ring), grains[ring]);
        }
    }

    private static void reach() {
        Doc.says("Grains", "The reach is the greatest ring of a grain.");
        Grains x = new Grains();
        Check.due("the middle alone", x.count(5), 0);
        x.begin(1);
        Check.due("the row 10", x.count(5), 5);
        x.begin(2);
        Check.due("the circle", x.count(5), 2);
        int[] column = {49, 38, 27, 16, 5};
        int[] row = {59, 58, 57, 56, 55};
        for (int i = 1; i <= 5; i++) {
            Check.due("up to the ring " + i, Built.plate(0, Arrays.copyOf(column, i)).count(5), i);
            Check.due("to the left up to the ring " + i, Built.plate(0, Arrays.copyOf(row, i)).count(5), i);
        }
        x = Built.plate(0, column);
        for (int i = 4; i >= 0; i--) {
            x.wash();
            Check.due("washed back to the ring " + i, x.count(5), i);
        }
    }

    private static void lookingIn() {
        Doc.says("Grains",
                "From each cell of the rim one looks straight in: from those of the row 0 down, from those of"
                + " the column 10 to the left, from those of the row 10 up, from those of the column 0 to the right");
        Grains x = new Grains();
        for (int rim = 0; rim < 40; rim++) {
            Check.due("the middle: screens(" + rim + ")", x.screens(rim), rim % 10 == 5 ? 0 : -4);
        }
        x.begin(1);
        for (int column = 0; column <= 10; column++) {
            Check.due("the row 10, the last cell seen from the column " + column, x.screens(column), column);
        }
        x = Built.plate(1, 99);
        Check.due("the last cell seen from the right", x.screens(19), 11);
        x = Built.plate(1, 109);
        Check.due("the last cell seen from the left", x.screens(31), 11);
        x = Built.plate(0, 49, 38, 27, 16, 5);
        Check.due("the last cell seen from below is hidden by the middle", x.screens(25), 0);
        Check.due("nothing beside it", x.screens(26), -4);
        x = Plates.doubleT();
        x.breakOff(6);
        Check.due("the last cell seen from below", x.screens(26), x.cell(4, 0));
        Check.due("the last cell seen from below", x.screens(24), x.cell(6, 0));
    }

    private static void corners() {
        Doc.says("Grains", "(cells at corners by the row).");
        int[] corners = {0, 10, 20, 30};
        int[] inColumn = {22, 14, 18, 26};
        Grains lying = Plates.lyingT();
        Grains standing = Plates.doubleT();
        for (int i = 0; i < 4; i++) {
            Check.due("along the column from " + corners[i], lying.screens(corners[i]), inColumn[i]);
            Check.due("not along the row from " + corners[i], standing.screens(corners[i]), -4);
        }
    }

    private static void firstMet() {
        Doc.says("Grains", "The first grain that is met, the cell of the rim itself looked at first, is the one that"
                + " screens there.");
        Grains x = Built.full();
        for (int rim = 0; rim < 40; rim++) {
            Check.due("full plate: screens(" + rim + ")", x.screens(rim), x.cell(Plates.RIM[rim], 0));
        }
        x = Built.plate(0, 49, 38);
        Check.due("the nearest of three from above", x.screens(5), 2);
        Check.due("the nearest of three from below", x.screens(25), 0);
        x = Built.plate(0, 61, 62);
        Check.due("the nearest of three from the right", x.screens(15), 2);
        Check.due("the nearest of three from the left", x.screens(35), 0);
    }

    private static void catches() {
        Doc.says("Grains", "The catch of a grain is at how many cells of the rim it screens.");
        int[] cells = {49, 71, 59, 61};
        for (int i = 0; i <= 4; i++) {
            Grains x = Built.plate(0, Arrays.copyOf(cells, i));
            Check.due("the middle behind " + i + " others", x.grain(0, 6), 4 - i);
            Check.due("the greatest catch", x.count(11), i == 0 ? 4 : 3);
            Check.due("the lowest grain with it", x.count(12), i < 2 ? 0 : 1);
        }
        Grains full = Built.full();
        for (int grain = 0; grain <= 120; grain++) {
            boolean onRim = full.cell(full.grain(grain, 0), 3) >= 0;
            Check.due("full plate grain(" + grain + ", 6)", full.grain(grain, 6), onRim ? 1 : 0);
        }
        Check.due("full plate: the greatest catch", full.count(11), 1);
        Check.due("full plate: the lowest grain with it", full.count(12), 0);
    }
}
