import java.util.List;
import java.util.function.ToIntFunction;

/** The terms: changes and errors. */
final class EdgesOfChanges {
    private static final List<ToIntFunction<RimGrains>> CHANGES = List.of(
            x -> x.begin(2), x -> x.lot(77), x -> x.go(5), x -> x.rain(20), x -> x.breakOff(11), x -> x.wash(),
            x -> x.set(RimGrains.PATIENCE, 33), x -> x.carryOut(), x -> x.restore());

    private static final List<ToIntFunction<RimGrains>> NO_CHANGES = List.of(
            x -> x.append('w'), x -> x.clear(), x -> x.fault(), x -> x.why(0), x -> x.cell(0, 0), x -> x.grain(0, 0),
            x -> x.screens(0), x -> x.ring(0), x -> x.apart(0, 1), x -> x.longest(0), x -> x.longest(1),
            x -> x.count(0), x -> (int) x.density(), x -> x.ifGone(0, 0), x -> x.ifBroken(11, 0), x -> x.save());

    private EdgesOfChanges() {
    }

    static void run() {
        changes();
        changesWithoutADifference();
        noChanges();
        noStates();
        atMostFour();
        orderOfErrors();
        noSuchGrain();
        errorsChangeNothing();
        constants();
    }

    private static void changes() {
        Doc.says("Changes and errors",
                "The changes are the calls of begin, lot, go, rain, breakOff, wash, set, carryOut"
                + " and restore that return no error.");
        for (int i = 0; i < CHANGES.size(); i++) {
            Grains x = Plates.busyAndUndone();
            String before = Plates.state(x);
            Check.holds("change " + i + " returns no error", x.kept(CHANGES.get(i)) >= 0);
            Check.due("states behind change " + i, x.count(19), 1);
            Check.holds("change " + i + " changes something", !before.equals(Plates.state(x)));
            Check.due("undo() of change " + i, x.undo(), 0);
            Check.holds("undo() of change " + i + " brings all back", before.equals(Plates.state(x)));
            Check.due("no other state behind change " + i, x.undo(), -2);
        }
    }

    private static void changesWithoutADifference() {
        List<ToIntFunction<RimGrains>> same = List.of(
                x -> x.begin(0), x -> x.lot(1), x -> x.wash(), x -> x.set(0, 4), x -> x.set(1, 60), x -> x.set(2, 0),
                x -> x.set(3, 2), x -> x.carryOut(), x -> x.restore());
        for (int i = 0; i < same.size(); i++) {
            Grains x = new Grains();
            String before = Plates.state(x);
            x.save();
            Plates.type(x, "b0");
            Check.holds("change " + i + " returns no error", x.kept(same.get(i)) >= 0);
            Check.holds("change " + i + " changes nothing", before.equals(Plates.state(x)));
            Check.due("states behind change " + i, x.count(19), 1);
            Check.due("undo() of change " + i, x.undo(), 0);
        }
    }

    private static void noChanges() {
        for (int i = 0; i < NO_CHANGES.size(); i++) {
            Grains x = Plates.busyAndUndone();
            x.kept(NO_CHANGES.get(i));
            Check.due("no state behind call " + i, x.count(19), 0);
            Check.due("nothing to undo behind call " + i, x.undo(), -2);
            x = Plates.busy();
            x.kept(NO_CHANGES.get(i));
            Check.due("no state more behind call " + i, x.count(19), 4);
            Check.due("undo() behind call " + i, x.undo(), 3);
            Check.due("undo() is no change", x.count(19), 3);
        }
    }

    private static void noStates() {
        Refusal.due("undo() of a new object", Grains::new, RimGrains::undo, -2);
        Refusal.due("undo() when all is undone", Plates::busyAndUndone, RimGrains::undo, -2);
        Check.due("states of a new object", new Grains().count(19), 0);
    }

    /** Each kind of change as the one behind 0 to 6 others, which are told by their lots. */
    private static void atMostFour() {
        Doc.says("Changes and errors", "A history of at most 4 states is kept: each change records everything before it"
                + " but the pad and the snapshot (also if nothing is different then), and if there are 5 states"
                + " then, the"
                + " oldest one is dropped.");
        for (int i = 0; i < CHANGES.size(); i++) {
            for (int others = 0; others <= 6; others++) {
                Grains x = Plates.busyAndUndone();
                int first = x.count(17);
                for (int other = 1; other <= others; other++) {
                    x.lot(1000 + other);
                }
                String before = Plates.state(x);
                x.kept(CHANGES.get(i));
                int states = Math.min(others + 1, 4);
                String call = "change " + i + " behind " + others + " others";
                Check.due(call, x.count(19), states);
                Check.due(call + ", undo()", x.undo(), states - 1);
                Check.holds(call + ", all as before", before.equals(Plates.state(x)));
                for (int left = states - 2; left >= 0; left--) {
                    Check.due(call + ", undo() again", x.undo(), left);
                    int lot = others - (states - 1 - left);
                    Check.due(call + ", the lot before", x.count(17), lot == 0 ? first : 1000 + lot);
                }
                Check.due(call + ", undo() once more", x.undo(), -2);
            }
        }
        padAndSnapshotAreNotRecorded();
    }

    private static void padAndSnapshotAreNotRecorded() {
        Grains x = new Grains();
        Plates.type(x, "g5");
        x.begin(1);
        Plates.type(x, ";w");
        x.save();
        Check.due("undo()", x.undo(), 0);
        Check.due("the pad stays as it is", x.count(18), 4);
        Check.due("its text too", x.fault(), -4);
        Check.due("the snapshot stays as it is", x.restore(), 11);
    }

    private static void orderOfErrors() {
        Doc.says("Changes and errors", "If several errors apply to a call, INVALID_ARGUMENT is returned rather than"
                + " NOT_POSSIBLE,");
        for (int what : new int[] {-1, 3}) {
            Refusal.due("ifGone(a taken cell, " + what + ")", Plates::busy, x -> x.ifGone(25, what), -1);
        }
        for (int what : new int[] {-1, 4}) {
            Refusal.due("ifBroken(a root, " + what + ")", Plates::busy, x -> x.ifBroken(0, what), -1);
        }
        Doc.says("Changes and errors",
                "NOT_POSSIBLE rather than LIMIT_REACHED, and LIMIT_REACHED rather than NOT_FOUND.");
        Refusal.due("append(32) on a full pad", Plates::busyWithFullPad, x -> x.append(32), -1);
        Refusal.due("append(127) on a full pad", Plates::busyWithFullPad, x -> x.append(127), -1);
        Refusal.due("carryOut() of a full pad with a fault", EdgesOfChanges::fullPadWithAFault, RimGrains::carryOut,
                -2);
        invalidRatherThanNotFound();
    }

    private static Grains fullPadWithAFault() {
        Grains x = Plates.busy();
        x.clear();
        Plates.type(x, "w;".repeat(30));
        return x;
    }

    private static void invalidRatherThanNotFound() {
        Refusal.due("cell(no cell, its grain)", Plates::busy, x -> x.cell(121, 0), -1);
        Refusal.due("cell(no cell, its number on the rim)", Plates::busy, x -> x.cell(-1, 3), -1);
        Refusal.due("cell(a cell without a grain, nothing)", Plates::busy, x -> x.cell(60, 4), -1);
        Refusal.due("grain(no grain, its holder)", Plates::busy, x -> x.grain(121, 1), -1);
        Refusal.due("grain(a root, nothing)", Plates::busy, x -> x.grain(0, 9), -1);
        Refusal.due("screens(no cell)", Plates::busy, x -> x.screens(40), -1);
        Refusal.due("apart(a root, no grain)", Plates::busy, x -> x.apart(0, 121), -1);
        Refusal.due("apart(no grain, a root)", Plates::busy, x -> x.apart(-1, 0), -1);
        Refusal.due("why(nothing) without a stop", Grains::new, x -> x.why(3), -1);
    }

    private static void noSuchGrain() {
        Doc.says("Changes and errors", "If there is no grain of a certain number, this is INVALID_ARGUMENT.");
        Grains[] plates = {new Grains(), Built.plate(1), Built.plate(1, 99), Built.plate(0, 49, 38), Built.full()};
        int[] grains = {1, 11, 12, 3, 121};
        for (int i = 0; i < plates.length; i++) {
            Grains x = plates[i];
            for (int grain : new int[] {-1, grains[i], grains[i] + 1, Integer.MIN_VALUE, Integer.MAX_VALUE}) {
                noGrain(x, grain);
            }
            int last = grains[i] - 1;
            Check.holds("there is a last grain", x.grain(last, 0) >= 0);
            Check.due("it is no distance from itself", x.apart(last, last), 0);
            Check.due("ifBroken() of the last grain", x.ifBroken(last, 0), i < 2 ? -2 : last);
            Check.due("breakOff() of the last grain", x.breakOff(last), i < 2 ? -2 : 1);
            noGrain(x, i < 2 ? grains[i] : last);
        }
        Grains x = new Grains();
        Plates.type(x, "b1");
        x.carryOut();
        Check.due("as a deed", x.why(0), -1);
    }

    private static void noGrain(Grains x, int grain) {
        Check.due("breakOff(" + grain + ")", x.breakOff(grain), -1);
        Check.due("apart(0, " + grain + ")", x.apart(0, grain), -1);
        Check.due("apart(" + grain + ", 0)", x.apart(grain, 0), -1);
        Check.due("apart(" + grain + ", " + grain + ")", x.apart(grain, grain), -1);
        for (int what = 0; what <= 8; what++) {
            Check.due("grain(" + grain + ", " + what + ")", x.grain(grain, what), -1);
        }
        for (int what = 0; what <= 3; what++) {
            Check.due("ifBroken(" + grain + ", " + what + ")", x.ifBroken(grain, what), -1);
        }
    }

    /** The refusals of each call stand with its promise; here those that have none of their own arguments. */
    private static void errorsChangeNothing() {
        Doc.says("Changes and errors", "A call that returns an error changes nothing (the pad stays, too).");
        Refusal.due("begin(3)", Plates::busyWithFullPad, x -> x.begin(3), -1);
        Refusal.due("go(25)", Plates::busyWithFullPad, x -> x.go(25), -2);
        Refusal.due("breakOff(0)", Plates::busyWithFullPad, x -> x.breakOff(0), -2);
        Refusal.due("append('w')", Plates::busyWithFullPad, x -> x.append('w'), -3);
        Refusal.due("carryOut()", Plates::busyWithOpenPad, RimGrains::carryOut, -2);
        Refusal.due("undo()", Plates::busyAndUndone, RimGrains::undo, -2);
        Refusal.due("restore()", () -> Built.plate(2, 35), RimGrains::restore, -2);
        Grains x = Plates.busy();
        String before = Plates.everything(x);
        for (int i = 0; i < 6; i++) {
            x.begin(-1);
            x.lot(10000);
            x.go(40);
            x.go(25);
            x.rain(21);
            x.breakOff(0);
            x.set(4, 0);
        }
        Check.due("six times seven errors leave the history", x.count(19), 4);
        Check.holds("and all else", before.equals(Plates.everything(x)));
    }

    private static void constants() {
        Doc.says("Changes and errors",
                "The constants: `INVALID_ARGUMENT = -1`: An argument is out of its range, or there"
                + " is no such grain.");
        Check.due("INVALID_ARGUMENT", RimGrains.INVALID_ARGUMENT, -1);
        Check.due("no such grain", new Grains().grain(1, 0), RimGrains.INVALID_ARGUMENT);
        Doc.says("Changes and errors", "`NOT_POSSIBLE = -2`: The call is not possible in the present state.");
        Check.due("NOT_POSSIBLE", RimGrains.NOT_POSSIBLE, -2);
        Check.due("nothing to undo", new Grains().undo(), RimGrains.NOT_POSSIBLE);
        Doc.says("Changes and errors", "`LIMIT_REACHED = -3`: A fixed limit has been reached.");
        Check.due("LIMIT_REACHED", RimGrains.LIMIT_REACHED, -3);
        Check.due("a full pad", Plates.busyWithFullPad().append('w'), RimGrains.LIMIT_REACHED);
        Doc.says("Changes and errors", "`NOT_FOUND = -4`: There is no such value.");
        Check.due("NOT_FOUND", RimGrains.NOT_FOUND, -4);
        Check.due("no grain there", new Grains().cell(0, 0), RimGrains.NOT_FOUND);
        Doc.says("Changes and errors", "`STICK = 0, PATIENCE = 1, WIND = 2, WAY = 3`: Numbers of the settings.");
        Check.due("STICK", new Grains().set(RimGrains.STICK, 1), 4);
        Check.due("PATIENCE", new Grains().set(RimGrains.PATIENCE, 10), 60);
        Check.due("WIND", new Grains().set(RimGrains.WIND, 1), 0);
        Check.due("WAY", new Grains().set(RimGrains.WAY, 1), 2);
        Check.due("STICK", RimGrains.STICK, 0);
        Check.due("PATIENCE", RimGrains.PATIENCE, 1);
        Check.due("WIND", RimGrains.WIND, 2);
        Check.due("WAY", RimGrains.WAY, 3);
    }
}
