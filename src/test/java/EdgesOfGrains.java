/** Promises 1 to 8: a new object, begin, lot, go, rain, breakOff, wash, set. */
final class EdgesOfGrains {
    private static final int MIN = Integer.MIN_VALUE;
    private static final int MAX = Integer.MAX_VALUE;

    private EdgesOfGrains() {
    }

    static void run() {
        newObject();
        objectsAreApart();
        lastCall();
        begin();
        beginRefuses();
        lot();
        go();
        goAnswers();
        goRefuses();
        rainOneAfterTheOther();
        rainAtEachRim();
        rainOnGrains();
        rainRange();
        breakOff();
        breakOffRefuses();
        wash();
        set();
    }

    private static void newObject() {
        Doc.says("Promise 1", "Creates a plate with a root in the middle.");
        Grains x = new Grains();
        int[] counts = {1, 1, 1, 0, 0, 0, 4, 0, 0, 0, 0, 4, 0, 4, 60, 0, 2, 1, 0, 0};
        for (int what = 0; what <= 19; what++) {
            Check.due("new count(" + what + ")", x.count(what), counts[what]);
        }
        int[] root = {60, -4, 0, 0, 1, 0, 4, 0, 0};
        for (int what = 0; what <= 8; what++) {
            Check.due("new grain(0, " + what + ")", x.grain(0, what), root[what]);
        }
        Check.due("no second grain", x.grain(1, 0), -1);
        Check.due("nothing to undo", x.undo(), -2);
        Check.due("nothing to restore", x.restore(), -2);
        Check.due("nothing to carry out", x.carryOut(), -2);
        Check.due("nothing to clear", x.clear(), 0);
    }

    private static void objectsAreApart() {
        RimGrains one = new RimGrains();
        RimGrains other = new RimGrains();
        one.begin(1);
        one.set(RimGrains.STICK, 1);
        one.append('w');
        one.save();
        one.lot(5);
        Check.due("grains of the other", other.count(0), 1);
        Check.due("STICK of the other", other.count(13), 4);
        Check.due("lot of the other", other.count(17), 1);
        Check.due("pad of the other", other.count(18), 0);
        Check.due("history of the other", other.count(19), 0);
        Check.due("snapshot of the other", other.restore(), -2);
    }

    /** The most that can be counted in 512 calls: 509 times 20 grains, with many steps. */
    private static void lastCall() {
        Doc.says("What it is", "An object is used for at most 512 calls after it has been made;");
        RimGrains x = new RimGrains();
        Model model = new Model();
        x.set(RimGrains.PATIENCE, 200);
        model.set(RimGrains.PATIENCE, 200);
        for (int call = 2; call <= 510; call++) {
            x.rain(20);
            model.rain(20);
        }
        Check.due("the 511th call, grains let go", x.count(7), 20 * 509);
        Check.due("the 512th call, steps", x.count(10), model.count(10));
    }

    private static void begin() {
        Doc.says("Promise 2", "Begins anew: all grains are gone, what was counted so far is 0; the lot and the settings"
                + " stay.");
        Doc.says("Promise 2", "Returns how many roots there are;");
        int[] roots = {1, 11, 16};
        for (int beginning = 0; beginning <= 2; beginning++) {
            Grains x = Plates.busy();
            int lot = x.count(17);
            Check.holds("something was counted", x.count(7) > x.count(8) && x.count(8) > 0 && x.count(9) > 0
                    && x.count(10) > 0);
            Check.due("begin(" + beginning + ")", x.begin(beginning), roots[beginning]);
            Check.due("grains", x.count(0), roots[beginning]);
            for (int what = 7; what <= 10; what++) {
                Check.due("count(" + what + ") begins anew", x.count(what), 0);
            }
            Check.due("the lot stays", x.count(17), lot);
            int[] settings = {3, 60, 3, 2};
            for (int what = 0; what <= 3; what++) {
                Check.due("setting " + what + " stays", x.count(13 + what), settings[what]);
            }
            Check.due("the pad stays", x.count(18), 9);
            Check.due("the stop stays", x.why(1), 2);
            Check.due("the history goes on", x.count(19), 4);
            Check.due("again", x.begin(beginning), roots[beginning]);
            x.breakOff(0);
            Check.due("the snapshot stays", x.restore(), 13);
        }
    }

    private static void beginRefuses() {
        Doc.says("Promise 2", "`beginning`: 0 to 2");
        Doc.says("Promise 2", "INVALID_ARGUMENT.");
        for (int beginning : new int[] {-1, 3, MIN, MAX}) {
            Refusal.due("begin(" + beginning + ")", Plates::busy, x -> x.begin(beginning), -1);
            Refusal.due("new begin(" + beginning + ")", Grains::new, x -> x.begin(beginning), -1);
        }
    }

    private static void lot() {
        Doc.says("Promise 3", "Changes the lot.");
        Doc.says("Promise 3", "`x`: 0 to 9999");
        Doc.says("Promise 3", "Returns the lot before; INVALID_ARGUMENT.");
        Grains x = new Grains();
        int before = 1;
        for (int lot : new int[] {0, 0, 1, 9998, 9999, 9999, 0}) {
            Check.due("lot(" + lot + ")", x.lot(lot), before);
            Check.due("count(17)", x.count(17), lot);
            before = lot;
        }
        for (int lot : new int[] {-1, 10000, 10001, MIN, MAX}) {
            Refusal.due("lot(" + lot + ")", Plates::busy, g -> g.lot(lot), -1);
        }
    }

    private static void go() {
        Doc.says("Promise 4", "Lets a grain go.");
        Doc.says("Promise 4", "`rim`: 0 to 39: the cell of the rim");
        for (int rim = 0; rim <= 39; rim++) {
            Grains x = new Grains();
            x.lot(Lots.leadingTo(4, Plates.outward(rim)));
            Check.due("off at once: go(" + rim + ")", x.go(rim), 1);
            Check.due("let go", x.count(7), 1);
            Check.due("lost", x.count(8), 1);
            Check.due("gone is another thing", x.count(9), 0);
            Check.due("steps", x.count(10), 1);
            Check.due("the change", x.count(19), 2);
        }
    }

    private static void goAnswers() {
        Doc.says("Promise 4", "Returns 1000 and the cell where it stays, if it sticks; otherwise how many steps it made"
                + " until it was lost (the step off the plate is one);");
        Grains x = Built.plate(1, 99, 88, 77, 66, 55, 44, 33, 22, 11);
        Check.due("the first cell", x.go(0), 1000);
        x = Built.plate(0, 71, 82, 93, 104, 115, 116, 117, 118, 119);
        Check.due("the last cell", x.go(20), 1120);
        Check.due("let go", x.count(7), 10);
        Check.due("lost", x.count(8), 0);
        x = new Grains();
        x.lot(Lots.leadingTo(4, 1));
        Check.due("to the right, and off: the step off is one", x.go(5), 2);
        x.set(RimGrains.PATIENCE, 200);
        x.lot(Lots.leadingTo(4, 2));
        Check.due("the most steps", x.go(5), 200);
        x.set(RimGrains.PATIENCE, 10);
        x.lot(Lots.leadingTo(4, 2));
        Check.due("the least by PATIENCE", x.go(5), 10);
        Check.due("all steps", x.count(10), 212);
    }

    private static void goRefuses() {
        Doc.says("Promise 4", "INVALID_ARGUMENT; NOT_POSSIBLE if the cell has a grain.");
        for (int rim : new int[] {-1, 40, 41, MIN, MAX}) {
            Refusal.due("go(" + rim + ")", Plates::busy, x -> x.go(rim), -1);
        }
        for (int rim = 20; rim <= 30; rim++) {
            int taken = rim;
            Refusal.due("go(" + rim + ") at a root", Plates::busy, x -> x.go(taken), -2);
        }
        Refusal.due("go(31) at a grain", Plates::twoStems, x -> x.go(31), -2);
        for (int rim = 0; rim <= 39; rim++) {
            int taken = rim;
            Refusal.due("go(" + rim + ") on a full plate", Built::full, x -> x.go(taken), -2);
        }
        Grains x = Built.plate(1, 99);
        x.breakOff(11);
        Check.due("a cell that is free again", x.go(31), 1099);
    }

    private static Grains windyRow(int lot) {
        Grains x = Built.plate(1);
        x.set(RimGrains.WIND, 4);
        x.lot(lot);
        return x;
    }

    private static void rainOneAfterTheOther() {
        Doc.says("Promise 5", "Lets several grains go, one after the other;");
        Doc.says("Promise 5", "Returns how many of them stick;");
        Grains x = windyRow(18);
        Check.due("two that stick", x.rain(2), 2);
        Check.due("the cell of the first", x.grain(11, 0), 100);
        Check.due("the cell of the second", x.grain(12, 0), 89);
        Check.due("the second holds on to the first", x.grain(12, 1), 11);
        Check.due("their steps", x.grain(11, 8) * 100 + x.grain(12, 8), 1713);
        Check.due("all steps", x.count(10), 30);
        Check.due("the lots of both", x.count(17), Lots.after(18, 1 + 18 + 1 + 14));
        x = windyRow(37);
        Check.due("the second at the cell that the first took", x.rain(2), 1);
        Check.due("the cell of the first", x.grain(11, 0), 99);
        Check.due("let go", x.count(7), 2);
        Check.due("lost", x.count(8), 1);
        Check.due("steps of the first alone", x.count(10), 15);
        x = windyRow(98);
        x.set(RimGrains.PATIENCE, 200);
        Check.due("rain(20)", x.rain(20), 14);
        Check.due("grains", x.count(0), 25);
        Check.due("lost", x.count(8), 6);
        for (int grains = 1; grains <= 20; grains++) {
            Grains some = windyRow(98);
            Grains single = windyRow(98);
            int sticking = 0;
            for (int i = 0; i < grains; i++) {
                sticking += single.rain(1);
            }
            Check.due("rain(" + grains + ")", some.rain(grains), sticking);
            Check.holds("as many times rain(1)", Plates.state(some).equals(Plates.state(single)));
            Check.due("but one change", some.count(19) - Built.plate(1).count(19), 2 + 1);
            Check.due("let go", some.count(7), grains);
        }
    }

    private static void rainAtEachRim() {
        Doc.says("Promise 5",
                "for each one a lot is drawn first, and it is let go at the cell of the rim of the remainder"
                + " of the lot by 40");
        for (int rim = 0; rim <= 39; rim++) {
            int lot = Lots.leadingTo(40, rim);
            Grains x = new Grains();
            x.lot(lot);
            x.rain(1);
            Grains y = new Grains();
            y.lot(Lots.next(lot));
            y.go(rim);
            Check.holds("the remainder " + rim, Plates.state(x).equals(Plates.state(y)));
        }
        Grains x = Built.plate(1, 99, 88, 77, 66, 55, 44, 33, 22);
        x.lot(Lots.leadingTo(40, 39));
        Check.due("the remainder 39", x.rain(1), 1);
        Check.due("sticks at the last cell of the rim", x.grain(19, 0), 11);
        x.lot(Lots.leadingTo(40, 0));
        Check.due("the remainder 0", x.rain(1), 1);
        Check.due("sticks at the first one", x.grain(20, 0), 0);
    }

    private static void rainOnGrains() {
        Doc.says("Promise 5", "(if that has a grain, it is lost without a step).");
        for (int rim = 19; rim <= 31; rim++) {
            Grains x = Built.plate(1);
            int lot = Lots.leadingTo(40, rim);
            boolean taken = rim >= 20 && rim <= 30;
            x.lot(lot);
            Check.due("a row of roots, the remainder " + rim, x.rain(1), taken ? 0 : 1);
            Check.due("let go", x.count(7), 1);
            Check.due("lost", x.count(8), taken ? 1 : 0);
            Check.due("without a step", x.count(10), 0);
            Check.due("lots", x.count(17), Lots.after(lot, taken ? 1 : 2));
        }
        for (int grains : new int[] {1, 20}) {
            Grains x = Built.full();
            Check.due("full plate rain(" + grains + ")", x.rain(grains), 0);
            Check.due("let go", x.count(7), 110 + grains);
            Check.due("lost", x.count(8), grains);
            Check.due("gone", x.count(9), 0);
            Check.due("a lot for each", x.count(17), Lots.after(1, grains));
            Check.due("grains", x.count(0), 121);
        }
    }

    private static void rainRange() {
        Doc.says("Promise 5", "`grains`: 1 to 20");
        Doc.says("Promise 5", "INVALID_ARGUMENT.");
        for (int grains : new int[] {-1, 0, 21, MIN, MAX}) {
            Refusal.due("rain(" + grains + ")", Plates::busy, x -> x.rain(grains), -1);
            Refusal.due("full plate rain(" + grains + ")", Built::full, x -> x.rain(grains), -1);
        }
    }

    private static void breakOff() {
        Doc.says("Promise 6", "Breaks a grain off: its tree is gone.");
        Doc.says("Promise 6", "`grain`: a grain");
        Doc.says("Promise 6", "Returns how many grains are gone;");
        Grains x = Built.full();
        Check.due("the last grain", x.breakOff(120), 1);
        Check.due("its cell is free", x.cell(10, 0), -4);
        Check.due("a whole column", x.breakOff(11), 10);
        for (int row = 0; row <= 9; row++) {
            Check.due("the column 0", x.cell(11 * row, 0), -4);
            Check.due("the column 1 stays", x.cell(11 * row + 1, 0) >= 0 ? 1 : 0, 1);
        }
        Check.due("gone", x.count(9), 11);
        Check.due("grains", x.count(0), 110);
        Check.due("let go stays", x.count(7), 110);
        Check.due("lost stays", x.count(8), 0);
        x = Built.plate(0, 49, 38, 37, 39, 71);
        Check.due("a tree with a fork", x.breakOff(1), 4);
        Check.due("the other one stays", x.grain(1, 0), 71);
        Check.due("and holds on to the root", x.grain(1, 1), 0);
        Check.due("the rest", x.breakOff(1), 1);
        Check.due("the root alone", x.count(0), 1);
    }

    private static void breakOffRefuses() {
        Doc.says("Promise 6", "INVALID_ARGUMENT; NOT_POSSIBLE if it is a root.");
        for (int root = 0; root <= 10; root++) {
            int grain = root;
            Refusal.due("breakOff(" + root + ")", Plates::twoStems, x -> x.breakOff(grain), -2);
        }
        for (int grain : new int[] {-1, 17, 18, 121, MIN, MAX}) {
            Refusal.due("breakOff(" + grain + ")", Plates::twoStems, x -> x.breakOff(grain), -1);
        }
        Refusal.due("new breakOff(0)", Grains::new, x -> x.breakOff(0), -2);
        Refusal.due("new breakOff(1)", Grains::new, x -> x.breakOff(1), -1);
        Refusal.due("full plate breakOff(10)", Built::full, x -> x.breakOff(10), -2);
        Refusal.due("full plate breakOff(121)", Built::full, x -> x.breakOff(121), -1);
    }

    private static void wash() {
        Doc.says("Promise 7", "Washes all tips away that are no roots (those that are tips now, all at once).");
        Doc.says("Promise 7", "Returns how many grains are gone.");
        for (int beginning = 0; beginning <= 2; beginning++) {
            Grains x = Built.plate(beginning);
            int roots = x.count(0);
            Check.due("roots alone", x.wash(), 0);
            Check.due("all stay", x.count(0), roots);
            Check.due("none is gone", x.count(9), 0);
        }
        Grains full = Built.full();
        for (int row = 0; row <= 9; row++) {
            Check.due("the tips of all columns", full.wash(), 11);
            Check.due("their row is free", full.cell(11 * row + 5, 0), -4);
            Check.due("gone", full.count(9), 11 * (row + 1));
        }
        Check.due("the row of roots stays", full.wash(), 0);
        Check.due("let go stays", full.count(7), 110);
        Grains fork = Built.plate(0, 49, 38, 37, 39, 71);
        Check.due("both tips of a fork, and the one on the root", fork.wash(), 3);
        Check.due("what becomes a tip by it stays", fork.count(0), 3);
        Check.due("until the next time", fork.wash(), 1);
    }

    private static void set() {
        Doc.says("Promise 8", "Changes a setting.");
        Doc.says("Promise 8", "`what`: 0 to 3");
        Doc.says("Promise 8", "`value`: a value in its range");
        Doc.says("Promise 8", "Returns the value before; INVALID_ARGUMENT.");
        int[] least = {1, 10, 0, 0};
        int[] most = {4, 200, 4, 3};
        Grains x = Plates.busy();
        for (int what = 0; what <= 3; what++) {
            int before = x.count(13 + what);
            Check.due("set(" + what + ", the least)", x.set(what, least[what]), before);
            Check.due("set(" + what + ", the most)", x.set(what, most[what]), least[what]);
            Check.due("set(" + what + ", the same)", x.set(what, most[what]), most[what]);
            int setting = what;
            for (int value : new int[] {least[what] - 1, most[what] + 1, -1, MIN, MAX}) {
                Refusal.due("set(" + what + ", " + value + ")", Plates::busy, g -> g.set(setting, value), -1);
            }
        }
        for (int what : new int[] {-1, 4, 13, MIN, MAX}) {
            for (int value : new int[] {0, 2, 3, 10}) {
                Refusal.due("set(" + what + ", " + value + ")", Plates::busy, g -> g.set(what, value), -1);
            }
        }
    }
}
