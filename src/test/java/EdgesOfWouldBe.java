/** Promises 22 to 26: ifGone, ifBroken, undo, save, restore. */
final class EdgesOfWouldBe {
    private static final int MIN = Integer.MIN_VALUE;
    private static final int MAX = Integer.MAX_VALUE;

    private EdgesOfWouldBe() {
    }

    static void run() {
        ifGone();
        ifGoneAsGo();
        ifGoneRefuses();
        ifBroken();
        ifBrokenRefuses();
        undo();
        undoRefuses();
        save();
        restore();
        restoreRefuses();
    }

    private static void ifGone() {
        Doc.says("Promise 22", "Tells what a grain would do, if it was let go now.");
        Doc.says("Promise 22", "`what`: 0: what go() would return; 1: the cell to which it would come behind its last"
                + " step (off the plate: the last one on it); 2: how many lots would be drawn");
        Grains x = Built.plate(1, 99, 88, 77, 66, 55, 44, 33, 22, 11);
        goneIs(x, 0, 1000, 0, 1);
        x = Built.plate(0, 71, 82, 93, 104, 115, 116, 117, 118, 119);
        goneIs(x, 20, 1120, 120, 1);
        x = new Grains();
        x.lot(Lots.leadingTo(4, 1));
        goneIs(x, 10, 1, 10, 1);
        goneIs(x, 0, 2, 1, 2);
        x.set(RimGrains.PATIENCE, 200);
        x.lot(Lots.leadingTo(4, 2));
        goneIs(x, 5, 200, 5, 200);
        Check.due("the lot stays", x.count(17), Lots.leadingTo(4, 2));
        Check.due("none was let go", x.count(7), 0);
    }

    private static void goneIs(Grains x, int rim, int answer, int place, int draws) {
        Check.due("ifGone(" + rim + ", 0)", x.ifGone(rim, 0), answer);
        Check.due("ifGone(" + rim + ", 1)", x.ifGone(rim, 1), place);
        Check.due("ifGone(" + rim + ", 2)", x.ifGone(rim, 2), draws);
    }

    private static void ifGoneAsGo() {
        Doc.says("Promise 22", "NOT_POSSIBLE as for go().");
        Grains[] plates = {new Grains(), Built.plate(1, 99, 109), Built.plate(2, 35), Plates.fullRim(), Built.full(),
            Plates.lyingT()};
        for (int i = 0; i < plates.length; i++) {
            for (int rim = 0; rim <= 39; rim++) {
                Grains x = plates[i].copy();
                int lot = x.count(17);
                int answer = x.ifGone(rim, 0);
                int place = x.ifGone(rim, 1);
                int draws = x.ifGone(rim, 2);
                String call = "plate " + i + " go(" + rim + ")";
                Check.due(call, x.go(rim), answer);
                if (answer < 0) {
                    Check.due(call + " refused", answer, -2);
                    Check.due(call + " place", place, -2);
                    Check.due(call + " draws", draws, -2);
                } else {
                    Check.due(call + " draws", x.count(17), Lots.after(lot, draws));
                    Check.due(call + " place", x.cell(place, 0) == -4 ? 0 : 1, answer >= 1000 ? 1 : 0);
                }
            }
        }
    }

    private static void ifGoneRefuses() {
        Doc.says("Promise 22", "`rim`: 0 to 39");
        Doc.says("Promise 22", "Returns the number; INVALID_ARGUMENT;");
        for (int what = 0; what <= 2; what++) {
            int asked = what;
            for (int rim : new int[] {-1, 40, MIN, MAX}) {
                Refusal.due("ifGone(" + rim + ", " + what + ")", Plates::busy, x -> x.ifGone(rim, asked), -1);
            }
            for (int rim = 20; rim <= 30; rim++) {
                int taken = rim;
                Refusal.due("ifGone(" + rim + ", " + what + ")", Plates::busy, x -> x.ifGone(taken, asked), -2);
            }
        }
        for (int what : new int[] {-1, 3, MIN, MAX}) {
            for (int rim : new int[] {-1, 0, 20, 39, 40}) {
                Refusal.due("ifGone(" + rim + ", " + what + ")", Plates::busy, x -> x.ifGone(rim, what), -1);
            }
        }
    }

    private static void ifBroken() {
        Doc.says("Promise 23", "Tells what breaking a grain off would bring.");
        Doc.says("Promise 23", "`grain`: a grain");
        Doc.says("Promise 23", "`what`: 0: how many grains would be left; 1: the reach; 2: the greatest depth; 3: how"
                + " many cells of the rim would be screened by no grain");
        Grains x = Built.plate(0, 49, 38, 27, 16, 5);
        for (int grain = 1; grain <= 5; grain++) {
            brokenIs(x, grain, grain, grain - 1, grain - 1, 36 - 2 * (grain - 1));
        }
        x = Built.plate(0, 49, 71);
        brokenIs(x, 1, 2, 1, 1, 34);
        brokenIs(x, 2, 2, 1, 1, 34);
        x = Built.full();
        brokenIs(x, 120, 120, 5, 10, 0);
        brokenIs(x, 11, 111, 5, 10, 0);
        x = Built.plate(1, 99);
        brokenIs(x, 11, 11, 5, 0, 18);
        x = Plates.fullRim();
        brokenIs(x, 39, 39, 5, 28, 0);
        brokenIs(x, 11, 11, 5, 0, 18);
        x = Plates.lyingT();
        brokenIs(x, 1, 14, 5, 9, 10);
        brokenIs(x, 26, 26, 5, 9, 0);
    }

    private static void brokenIs(Grains x, int grain, int left, int reach, int depth, int open) {
        String before = Plates.everything(x);
        Check.due("ifBroken(" + grain + ", 0)", x.ifBroken(grain, 0), left);
        Check.due("ifBroken(" + grain + ", 1)", x.ifBroken(grain, 1), reach);
        Check.due("ifBroken(" + grain + ", 2)", x.ifBroken(grain, 2), depth);
        Check.due("ifBroken(" + grain + ", 3)", x.ifBroken(grain, 3), open);
        Check.holds("ifBroken(" + grain + ") changes nothing", before.equals(Plates.everything(x)));
        Grains y = x.copy();
        y.breakOff(grain);
        Check.due("left behind breakOff(" + grain + ")", y.count(0), left);
        Check.due("reach behind breakOff(" + grain + ")", y.count(5), reach);
        Check.due("depth behind breakOff(" + grain + ")", y.count(4), depth);
        int unscreened = 0;
        for (int rim = 0; rim <= 39; rim++) {
            unscreened += y.screens(rim) == -4 ? 1 : 0;
        }
        Check.due("unscreened behind breakOff(" + grain + ")", unscreened, open);
    }

    private static void ifBrokenRefuses() {
        Doc.says("Promise 23", "Returns the number; INVALID_ARGUMENT; NOT_POSSIBLE as for breakOff().");
        for (int what = 0; what <= 3; what++) {
            int asked = what;
            for (int grain : new int[] {-1, 17, 121, MIN, MAX}) {
                Refusal.due("ifBroken(" + grain + ", " + what + ")", Plates::twoStems, x -> x.ifBroken(grain, asked),
                        -1);
            }
            for (int root = 0; root <= 10; root++) {
                int grain = root;
                Refusal.due("ifBroken(" + root + ", " + what + ")", Plates::twoStems, x -> x.ifBroken(grain, asked),
                        -2);
            }
            Refusal.due("new ifBroken(0, " + what + ")", Grains::new, x -> x.ifBroken(0, asked), -2);
            Refusal.due("new ifBroken(1, " + what + ")", Grains::new, x -> x.ifBroken(1, asked), -1);
        }
        for (int what : new int[] {-1, 4, MIN, MAX}) {
            for (int grain : new int[] {-1, 0, 10, 11, 16, 17}) {
                Refusal.due("ifBroken(" + grain + ", " + what + ")", Plates::twoStems, x -> x.ifBroken(grain, what),
                        -1);
            }
        }
    }

    private static void undo() {
        Doc.says("Promise 24", "Undoes the latest change: everything but the pad, the snapshot and why() is as it was"
                + " before it.");
        Doc.says("Promise 24", "Returns how many states the history has then;");
        Grains x = Built.full();
        x.set(RimGrains.WIND, 4);
        String[] before = new String[4];
        for (int i = 0; i < 4; i++) {
            before[i] = Plates.state(x);
            if (i % 2 == 0) {
                x.wash();
            } else {
                x.rain(20);
            }
        }
        Plates.type(x, "w;x");
        x.save();
        String saved = Plates.state(x);
        for (int i = 3; i >= 0; i--) {
            Check.due("undo()", x.undo(), i);
            Check.holds("as before the change " + i, before[i].equals(Plates.state(x)));
            Check.due("the pad stays", x.count(18), 3);
            Check.due("and its fault", x.fault(), 2);
        }
        Check.due("no change is left", x.undo(), -2);
        Check.holds("and nothing is undone by it", before[0].equals(Plates.state(x)));
        x.restore();
        Check.holds("the snapshot stays", saved.equals(Plates.state(x)));
        Check.due("the new history", x.count(19), 1);
        undoneIsForgotten();
    }

    private static void undoneIsForgotten() {
        Grains x = new Grains();
        for (int lot = 10; lot <= 60; lot += 10) {
            x.lot(lot);
        }
        Check.due("undo()", x.undo(), 3);
        Check.due("undo()", x.undo(), 2);
        x.lot(70);
        Check.due("a change behind an undo", x.count(19), 3);
        Check.due("undo()", x.undo(), 2);
        Check.due("the lot before it", x.count(17), 40);
        Check.due("undo()", x.undo(), 1);
        Check.due("the lot before that", x.count(17), 30);
        Check.due("undo()", x.undo(), 0);
        Check.due("the first lot that was kept", x.count(17), 20);
        Check.due("undo()", x.undo(), -2);
    }

    private static void undoRefuses() {
        Doc.says("Promise 24", "NOT_POSSIBLE if it has none.");
        Refusal.due("new undo()", Grains::new, RimGrains::undo, -2);
        Refusal.due("undo() when all is undone", Plates::busyAndUndone, RimGrains::undo, -2);
        Grains x = new Grains();
        x.append('w');
        x.save();
        x.begin(3);
        Check.due("no change was made", x.undo(), -2);
        x.lot(1);
        Check.due("one change", x.undo(), 0);
        Check.due("and no more", x.undo(), -2);
        x.lot(2);
        Check.due("one change again", x.undo(), 0);
    }

    private static void save() {
        Doc.says("Promise 25", "Takes a snapshot of everything but the pad, the history and why(), in place of the one"
                + " that was.");
        Doc.says("Promise 25", "Returns how many grains there are.");
        Check.due("save() of a new object", new Grains().save(), 1);
        Check.due("save() of a full plate", Built.full().save(), 121);
        Grains x = Plates.busy();
        String saved = Plates.state(x);
        Check.due("save()", x.save(), x.count(0));
        Check.due("is no change", x.count(19), 4);
        x.clear();
        Plates.type(x, "w");
        x.carryOut();
        Plates.type(x, "g1;g");
        x.begin(2);
        x.undo();
        x.undo();
        Check.due("restore()", x.restore(), x.count(0));
        Check.holds("all that was saved, in place of the snapshot before", saved.equals(Plates.state(x)));
        Check.due("not the pad", x.count(18), 4);
        Check.due("not why()", x.why(0), -4);
        Check.due("not the history", x.count(19), 4 + 2 - 2 - 1);
    }

    private static void restore() {
        Doc.says("Promise 26", "Restores the snapshot, which stays.");
        Doc.says("Promise 26", "Returns how many grains there are then;");
        Grains x = Built.full();
        x.save();
        String saved = Plates.state(x);
        for (int i = 0; i < 3; i++) {
            x.begin(0);
            x.set(RimGrains.STICK, 1 + i);
            x.lot(9000 + i);
            x.rain(20);
            Check.due("restore()", x.restore(), 121);
            Check.holds("as it was saved, time " + i, saved.equals(Plates.state(x)));
            Check.due("it is a change", x.count(19), 4);
        }
        Check.due("restore() of what is there", x.restore(), 121);
        x.wash();
        x.undo();
        x.undo();
        Check.holds("undo() of restore()", saved.equals(Plates.state(x)));
        Check.due("twice", x.undo(), 1);
        Check.due("then what was before", x.count(13), 3);
        x = new Grains();
        x.save();
        x.begin(1);
        x.undo();
        Check.due("a snapshot is not undone", x.restore(), 1);
        x.begin(1);
        x.save();
        x.undo();
        Check.due("nor does the one before come back", x.restore(), 11);
    }

    private static void restoreRefuses() {
        Doc.says("Promise 26", "NOT_POSSIBLE if there is none.");
        Refusal.due("new restore()", Grains::new, RimGrains::restore, -2);
        Refusal.due("restore() of a full plate", Built::full, RimGrains::restore, -2);
        Refusal.due("restore() behind an undo()", EdgesOfWouldBe::neverSaved, RimGrains::restore, -2);
    }

    private static Grains neverSaved() {
        Grains x = new Grains();
        x.begin(1);
        x.go(31);
        x.undo();
        Plates.type(x, "w;b0");
        x.carryOut();
        return x;
    }
}
