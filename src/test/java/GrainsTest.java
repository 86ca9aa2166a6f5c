/** Promises 1 to 8: a new object, begin, lot, go, rain, breakOff, wash, set. */
public final class GrainsTest {
    private GrainsTest() {
    }

    public static void main(String[] args) {
        newObject();
        begin();
        beginAnew();
        lot();
        goSticks();
        goIsLost();
        goRefuses();
        goChance();
        goHoldsInLowestDirection();
        goWithWind();
        rain();
        rainOnFullRim();
        breakOff();
        breakOffRefuses();
        wash();
        washForks();
        set();
        setRefuses();
        Check.end("GrainsTest");
    }

    private static void newObject() {
        Grains x = new Grains();
        Check.due("new count(0)", x.count(0), 1);
        Check.due("new count(1)", x.count(1), 1);
        Check.due("new grain(0, 0)", x.grain(0, 0), 60);
        Check.due("new grain(0, 1)", x.grain(0, 1), -4);
        Check.due("new grain(0, 8)", x.grain(0, 8), 0);
        for (int what = 7; what <= 10; what++) {
            Check.due("new count(" + what + ")", x.count(what), 0);
        }
        int[] settings = {4, 60, 0, 2};
        for (int i = 0; i < 4; i++) {
            Check.due("new setting " + i, x.count(13 + i), settings[i]);
        }
        Check.due("new lot", x.count(17), 1);
        Check.due("new pad", x.count(18), 0);
        Check.due("new history", x.count(19), 0);
        Check.due("new undo()", x.undo(), -2);
        Check.due("new restore()", x.restore(), -2);
        Check.due("new why(0)", x.why(0), -4);
        Check.due("new fault()", x.fault(), 0);
        Check.due("constants", RimGrains.INVALID_ARGUMENT * 1000 + RimGrains.NOT_POSSIBLE * 100
                + RimGrains.LIMIT_REACHED * 10 + RimGrains.NOT_FOUND, -1234);
        Check.due("settings", RimGrains.STICK * 1000 + RimGrains.PATIENCE * 100 + RimGrains.WIND * 10
                + RimGrains.WAY, 123);
    }

    private static void begin() {
        Grains x = new Grains();
        Check.due("begin(1)", x.begin(1), 11);
        for (int i = 0; i < 11; i++) {
            Check.due("row root " + i, x.grain(i, 0), 110 + i);
            Check.due("row root " + i + " holder", x.grain(i, 1), -4);
        }
        Check.due("begin(2)", x.begin(2), 16);
        int[] circle = {36, 37, 38, 39, 40, 47, 51, 58, 62, 69, 73, 80, 81, 82, 83, 84};
        for (int i = 0; i < 16; i++) {
            Check.due("circle root " + i, x.grain(i, 0), circle[i]);
            Check.due("circle cell " + circle[i], x.cell(circle[i], 0), i);
        }
        Check.due("middle of the circle", x.cell(60, 0), -4);
        Check.due("begin(0)", x.begin(0), 1);
        Check.due("middle", x.grain(0, 0), 60);
        Check.due("circle gone", x.cell(36, 0), -4);
        String before = Plates.everything(x);
        Check.due("begin(-1)", x.begin(-1), -1);
        Check.due("begin(3)", x.begin(3), -1);
        Check.due("begin(MAX)", x.begin(Integer.MAX_VALUE), -1);
        Check.holds("begin refused changes nothing", before.equals(Plates.everything(x)));
    }

    private static void beginAnew() {
        Grains full = Plates.fullRim();
        full.begin(0);
        for (int cell = 0; cell <= 120; cell++) {
            Check.due("cell " + cell, full.cell(cell, 0), cell == 60 ? 0 : -4);
        }
        Grains x = Plates.twoStems();
        x.set(RimGrains.STICK, 2);
        x.set(RimGrains.PATIENCE, 77);
        x.set(RimGrains.WIND, 3);
        x.set(RimGrains.WAY, 1);
        x.breakOff(16);
        x.rain(20);
        x.lot(4321);
        Check.holds("something was counted", x.count(7) > 6 && x.count(8) > 0 && x.count(9) == 1 && x.count(10) > 0);
        Check.due("begin(1) again", x.begin(1), 11);
        for (int what = 7; what <= 10; what++) {
            Check.due("begun anew count(" + what + ")", x.count(what), 0);
        }
        Check.due("lot stays", x.count(17), 4321);
        Check.due("STICK stays", x.count(13), 2);
        Check.due("PATIENCE stays", x.count(14), 77);
        Check.due("WIND stays", x.count(15), 3);
        Check.due("WAY stays", x.count(16), 1);
        Check.due("history goes on", x.count(19), 4);
    }

    private static void lot() {
        Grains x = new Grains();
        Check.due("lot(0)", x.lot(0), 1);
        Check.due("lot(9999)", x.lot(9999), 0);
        Check.due("lot(5)", x.lot(5), 9999);
        Check.due("count(17)", x.count(17), 5);
        Check.due("lot(5) again is a change", x.lot(5) * 10 + x.count(19), 54);
        Check.due("lot(-1)", x.lot(-1), -1);
        Check.due("lot(10000)", x.lot(10000), -1);
        Check.due("lot(MIN)", x.lot(Integer.MIN_VALUE), -1);
        Check.due("lot after refusals", x.count(17), 5);
    }

    /** With STICK 4 one lot is drawn beside a grain, and the grain sticks whatever it is. */
    private static void goSticks() {
        Grains x = new Grains();
        x.begin(1);
        Check.due("go(31)", x.go(31), 1099);
        Check.due("one lot is drawn", x.count(17), 2084);
        Check.due("its number", x.cell(99, 0), 11);
        Check.due("its holder", x.grain(11, 1), 0);
        Check.due("its steps", x.grain(11, 8), 0);
        Check.due("go(19)", x.go(19), 1109);
        Check.due("its holder", x.grain(12, 1), 10);
        Check.due("go(32)", x.go(32), 1088);
        Check.due("its holder", x.grain(13, 1), 11);
        Check.due("let go", x.count(7), 3);
        Check.due("lost", x.count(8), 0);
        Check.due("steps", x.count(10), 0);
        x.set(RimGrains.WIND, 3);
        x.set(RimGrains.PATIENCE, 10);
        x.begin(0);
        x.lot(36);
        Check.due("sticks behind the last step that PATIENCE allows", x.go(5), 1061);
        Check.due("its steps", x.grain(1, 8), 10);
        Check.due("count(10)", x.count(10), 10);
        Check.due("the lot then", x.count(17), 9949);
        Check.due("nothing lost", x.count(8), 0);
    }

    /** The lots behind 1 are 2084, 9027, 2030, 6293, ..: up, left, down, right, .. by the remainder by 4. */
    private static void goIsLost() {
        Grains x = new Grains();
        Check.due("off the plate at once", x.go(5), 1);
        Check.due("the lot then", x.count(17), 2084);
        Check.due("let go", x.count(7), 1);
        Check.due("lost", x.count(8), 1);
        Check.due("steps", x.count(10), 1);
        Check.due("grains", x.count(0), 1);
        Check.due("left, down, right, up and around", x.go(5), 60);
        Check.due("lost", x.count(8), 2);
        Check.due("steps", x.count(10), 61);
        x.set(RimGrains.PATIENCE, 10);
        Check.due("a lot for each step", x.lot(2084), Lots.after(2084, 60));
        Check.due("lost by PATIENCE", x.go(5), 10);
        Check.due("no lot for a step more", x.count(17), Lots.after(2084, 10));
        Check.due("steps", x.count(10), 71);
        x.lot(9027);
        Check.due("corner, down first", x.go(0), 10);
        x.lot(2084);
        Check.due("corner, off to the left", x.go(0), 1);
    }

    private static void goRefuses() {
        Grains x = Plates.fullRim();
        String before = Plates.everything(x);
        for (int rim = 0; rim < 40; rim++) {
            Check.due("full rim go(" + rim + ")", x.go(rim), -2);
        }
        Check.due("go(-1)", x.go(-1), -1);
        Check.due("go(40)", x.go(40), -1);
        Check.due("go(MAX)", x.go(Integer.MAX_VALUE), -1);
        Check.due("go(MIN)", x.go(Integer.MIN_VALUE), -1);
        Check.holds("go refused changes nothing", before.equals(Plates.everything(x)));
    }

    /** Behind the lot 2084: 9027 (3 by 4: no hold), 2030 (down, where a grain is: a step, no move), 6293 (1 by 4). */
    private static void goChance() {
        Grains x = new Grains();
        x.begin(1);
        x.lot(2084);
        x.set(RimGrains.STICK, 3);
        Check.due("sticks at the second try", x.go(31), 1099);
        Check.due("one step was made", x.grain(11, 8), 1);
        Check.due("three lots were drawn", x.count(17), 6293);
        x.begin(1);
        x.lot(2084);
        x.set(RimGrains.STICK, 4);
        Check.due("STICK 4 always sticks", x.go(31), 1099);
        Check.due("one lot was drawn", x.count(17), 9027);
        x.begin(1);
        x.lot(1);
        x.set(RimGrains.STICK, 1);
        Check.due("STICK 1 sticks by the remainder 0", x.go(31), 1099);
        Check.due("no step", x.grain(11, 8), 0);
        x.begin(1);
        x.lot(2030);
        Check.due("not by 6293; up by 1016, off to the left by 9399", x.go(31), 2);
        Check.due("the lot then", x.count(17), 9399);
    }

    private static void goHoldsInLowestDirection() {
        Grains x = Plates.fullRim();
        int last = x.cell(109, 0);
        Check.due("up before down", x.grain(last, 1), x.cell(98, 0));
        Check.due("its depth", x.grain(last, 2), 29);
        x.begin(1);
        for (int i = 0; i < 9; i++) {
            x.go(31 + i);
            x.go(19 - i);
        }
        for (int i = 0; i < 5; i++) {
            x.go(i);
            x.go(10 - i);
        }
        Check.due("go(5) between two grains", x.go(5), 1005);
        Check.due("right before left", x.grain(x.cell(5, 0), 1), x.cell(6, 0));
        x.begin(1);
        x.go(31);
        x.set(RimGrains.WIND, 1);
        x.lot(3);
        Check.due("right, the wind down, down", x.go(33), 1100);
        Check.due("its steps", x.grain(12, 8), 3);
        Check.due("down before left", x.grain(12, 1), 1);
    }

    /** By 8 the lots behind 1 are 4 (the wind), 3, 6 (the wind), 5 (the wind), 0, 7 (the wind), ... */
    private static void goWithWind() {
        Grains x = new Grains();
        x.set(RimGrains.WIND, 4);
        x.set(RimGrains.PATIENCE, 10);
        Check.due("down, left, down, down, up, down, down, right: sticks above the middle", x.go(5), 1049);
        Check.due("its steps", x.grain(1, 8), 8);
        Check.due("eight lots and one", x.count(17), 8508);
        x.begin(0);
        x.lot(1);
        x.set(RimGrains.WAY, 0);
        Check.due("the wind leads off at the top", x.go(5), 1);
        x.lot(1);
        x.set(RimGrains.WAY, 1);
        Check.due("the wind leads off to the right", x.go(15), 1);
        x.lot(1);
        x.set(RimGrains.WAY, 3);
        Check.due("the wind leads off to the left", x.go(35), 1);
        x.lot(1);
        x.set(RimGrains.WIND, 1);
        x.set(RimGrains.WAY, 0);
        Check.due("by 5 the lot 2084 is 4: the wind", x.go(5), 1);
    }

    private static void rain() {
        Grains x = new Grains();
        x.begin(1);
        x.lot(8);
        Check.due("the lot 5031 leads to the rim 31, 9714 lets it stick", x.rain(1), 1);
        Check.due("its cell", x.grain(11, 0), 99);
        Check.due("two lots", x.count(17), 9714);
        x.lot(2);
        Check.due("the lot 2505 leads to the rim 25, a root", x.rain(1), 0);
        Check.due("one lot", x.count(17), 2505);
        Check.due("let go", x.count(7), 2);
        Check.due("lost", x.count(8), 1);
        Check.due("steps", x.count(10), 0);
        Grains y = new Grains();
        y.begin(1);
        x.begin(1);
        x.lot(2505);
        y.lot(2505);
        int sticking = 0;
        for (int i = 0; i < 20; i++) {
            sticking += y.rain(1);
        }
        Check.due("rain(20) as twenty times rain(1)", x.rain(20), sticking);
        Check.holds("and the same state", Plates.state(x).equals(Plates.state(y)));
        String before = Plates.everything(x);
        Check.due("rain(0)", x.rain(0), -1);
        Check.due("rain(21)", x.rain(21), -1);
        Check.due("rain(-1)", x.rain(-1), -1);
        Check.holds("rain refused changes nothing", before.equals(Plates.everything(x)));
    }

    private static void rainOnFullRim() {
        Grains x = Plates.fullRim();
        x.lot(7);
        Check.due("rain(20)", x.rain(20), 0);
        Check.due("lost at once", x.count(8), 20);
        Check.due("let go", x.count(7), 29 + 20);
        Check.due("no steps", x.count(10), 0);
        Check.due("twenty lots", x.count(17), Lots.after(7, 20));
    }

    private static void breakOff() {
        Grains x = Plates.twoStems();
        Check.due("a stem from its second grain on", x.breakOff(12), 3);
        Check.due("grains", x.count(0), 14);
        Check.due("broken off", x.count(9), 3);
        Check.due("the one below stays", x.grain(11, 0), 99);
        Check.due("the others move up", x.grain(12, 0), 109);
        Check.due("and the next", x.grain(13, 0), 98);
        Check.due("the holder's new number", x.grain(13, 1), 12);
        Check.due("a root as holder", x.grain(12, 1), 10);
        Check.due("no grain", x.cell(88, 0), -4);
        Check.due("no grain", x.cell(66, 0), -4);
        Check.due("its cell", x.cell(98, 0), 13);
        Check.due("the tip", x.breakOff(13), 1);
        Check.due("what was let go stays", x.count(7), 6);
        Check.due("broken off", x.count(9), 4);
        Check.due("the cell is free again", x.go(18), 1098);
        Check.due("the newest", x.cell(98, 0), 13);
        Grains y = Plates.doubleT();
        Check.due("all that is above the middle", y.breakOff(1), 13);
        int[] cells = {60, 71, 82, 93, 104, 115, 116, 117, 118, 119, 114, 113, 112, 111};
        int[] holders = {-4, 0, 1, 2, 3, 4, 5, 6, 7, 8, 5, 10, 11, 12};
        int[] steps = {0, 8, 7, 6, 1, 0, 0, 0, 0, 0, 0, 0, 0, 0};
        for (int i = 0; i < cells.length; i++) {
            Check.due("cell of " + i, y.grain(i, 0), cells[i]);
            Check.due("holder of " + i, y.grain(i, 1), holders[i]);
            Check.due("steps of " + i, y.grain(i, 8), steps[i]);
        }
    }

    private static void breakOffRefuses() {
        Grains x = Plates.twoStems();
        String before = Plates.everything(x);
        for (int root = 0; root < 11; root++) {
            Check.due("breakOff(" + root + ")", x.breakOff(root), -2);
        }
        Check.due("breakOff(17)", x.breakOff(17), -1);
        Check.due("breakOff(-1)", x.breakOff(-1), -1);
        Check.due("breakOff(121)", x.breakOff(121), -1);
        Check.due("breakOff(MAX)", x.breakOff(Integer.MAX_VALUE), -1);
        Check.holds("breakOff refused changes nothing", before.equals(Plates.everything(x)));
    }

    private static void wash() {
        Grains x = Plates.twoStems();
        Check.due("the tips of both stems", x.wash(), 2);
        Check.due("washed away", x.count(9), 2);
        Check.due("free", x.cell(66, 0), -4);
        Check.due("free", x.cell(98, 0), -4);
        Check.due("the other stem's rest", x.grain(14, 0), 109);
        Check.due("wash()", x.wash(), 2);
        Check.due("one stem is gone", x.count(0), 13);
        Check.due("wash()", x.wash(), 1);
        Check.due("wash()", x.wash(), 1);
        Check.due("roots are not washed away", x.wash(), 0);
        Check.due("roots", x.count(0), 11);
        Check.due("washed away in all", x.count(9), 6);
        int lot = x.count(17);
        x.wash();
        Check.due("no lot", x.count(17), lot);
        Grains y = new Grains();
        Check.due("wash() of a root alone", y.wash(), 0);
        Check.due("is a change", y.count(19), 1);
    }

    private static void washForks() {
        Grains tees = Plates.doubleT();
        for (int i = 4; i > 0; i--) {
            Check.due("the tips of both tees", tees.wash(), 4);
        }
        for (int i = 5; i > 0; i--) {
            Check.due("the tips of the column", tees.wash(), 2);
        }
        Check.due("the middle stays", tees.wash(), 0);
        Grains x = Plates.grown();
        int tips = x.count(2) - (x.grain(0, 3) == 0 ? 1 : 0);
        int grains = x.count(0);
        int deepest = x.count(4);
        Check.holds("there are forks", x.count(3) > 3 && tips > 5);
        Check.due("all tips at once", x.wash(), tips);
        Check.due("the rest", x.count(0), grains - tips);
        Check.due("no deeper than before", x.count(4), deepest - 1);
    }

    private static void set() {
        Grains x = new Grains();
        int[] least = {1, 10, 0, 0};
        int[] most = {4, 200, 4, 3};
        int[] first = {4, 60, 0, 2};
        for (int what = 0; what < 4; what++) {
            Check.due("set(" + what + ", least)", x.set(what, least[what]), first[what]);
            Check.due("count(" + (13 + what) + ")", x.count(13 + what), least[what]);
            Check.due("set(" + what + ", most)", x.set(what, most[what]), least[what]);
            Check.due("count(" + (13 + what) + ")", x.count(13 + what), most[what]);
        }
        x.begin(2);
        for (int what = 0; what < 4; what++) {
            Check.due("stays at a beginning", x.count(13 + what), most[what]);
        }
    }

    private static void setRefuses() {
        Grains x = new Grains();
        int[] least = {1, 10, 0, 0};
        int[] most = {4, 200, 4, 3};
        String before = Plates.everything(x);
        for (int what = 0; what < 4; what++) {
            Check.due("set(" + what + ", too little)", x.set(what, least[what] - 1), -1);
            Check.due("set(" + what + ", too much)", x.set(what, most[what] + 1), -1);
            Check.due("set(" + what + ", MIN)", x.set(what, Integer.MIN_VALUE), -1);
            Check.due("set(" + what + ", MAX)", x.set(what, Integer.MAX_VALUE), -1);
        }
        Check.due("set(-1, 3)", x.set(-1, 3), -1);
        Check.due("set(4, 3)", x.set(4, 3), -1);
        Check.due("set(MAX, 3)", x.set(Integer.MAX_VALUE, 3), -1);
        Check.holds("set refused changes nothing", before.equals(Plates.everything(x)));
    }
}
