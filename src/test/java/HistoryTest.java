/** Promises 24 to 26: undo, save, restore. */
public final class HistoryTest {
    private HistoryTest() {
    }

    public static void main(String[] args) {
        undoEachChange();
        undoOnlyChanges();
        atMostFour();
        undoKeepsPadAndSnapshot();
        save();
        restore();
        restoreIsAChange();
        Check.end("HistoryTest");
    }

    private static Grains begun() {
        Grains x = Plates.twoStems();
        x.rain(20);
        x.breakOff(12);
        x.save();
        x.set(RimGrains.WIND, 1);
        x.rain(5);
        while (x.count(19) > 0) {
            x.undo();
        }
        return x;
    }

    private static int change(Grains x, int which) {
        switch (which) {
            case 0: return x.begin(2);
            case 1: return x.lot(77);
            case 2: return x.go(5);
            case 3: return x.rain(20);
            case 4: return x.breakOff(11);
            case 5: return x.wash();
            case 6: return x.set(RimGrains.PATIENCE, 33);
            case 7: return x.carryOut();
            case 8: return x.restore();
            case 9: return x.lot(x.count(17));
            default: return x.set(RimGrains.STICK, x.count(13));
        }
    }

    private static void undoEachChange() {
        for (int which = 0; which <= 10; which++) {
            Grains x = begun();
            Plates.type(x, "w;g0;b11");
            String before = Plates.state(x);
            Check.holds("change " + which + " is no error", change(x, which) >= 0);
            Check.due("change " + which + " is recorded", x.count(19), 1);
            Check.holds("change " + which + " changes", which >= 9 || !before.equals(Plates.state(x)));
            Check.due("undo of change " + which, x.undo(), 0);
            Check.holds("undo of change " + which, before.equals(Plates.state(x)));
            Check.due("no more", x.undo(), -2);
        }
    }

    private static void undoOnlyChanges() {
        Grains x = begun();
        x.append('w');
        x.clear();
        x.save();
        x.fault();
        x.why(0);
        x.ifGone(0, 0);
        x.ifBroken(11, 0);
        x.begin(7);
        x.lot(-1);
        x.go(25);
        x.go(99);
        x.rain(0);
        x.breakOff(0);
        x.breakOff(-1);
        x.set(9, 9);
        x.carryOut();
        Check.due("no change", x.count(19), 0);
        Check.due("nothing to undo", x.undo(), -2);
        Check.due("restore without a snapshot", new Grains().restore(), -2);
    }

    private static void atMostFour() {
        Grains x = new Grains();
        for (int i = 1; i <= 7; i++) {
            x.lot(100 * i);
            Check.due("states", x.count(19), Math.min(i, 4));
        }
        for (int i = 6; i >= 3; i--) {
            Check.due("undo()", x.undo(), i - 3);
            Check.due("the lot before", x.count(17), 100 * i);
        }
        String before = Plates.everything(x);
        Check.due("undo()", x.undo(), -2);
        Check.holds("undo refused changes nothing", before.equals(Plates.everything(x)));
        x.lot(1);
        x.lot(2);
        Check.due("undo()", x.undo(), 1);
        x.lot(3);
        Check.due("undo()", x.undo(), 1);
        Check.due("the lot", x.count(17), 1);
        Check.due("undo()", x.undo(), 0);
        Check.due("the lot", x.count(17), 300);
    }

    private static void undoKeepsPadAndSnapshot() {
        Grains x = new Grains();
        x.begin(1);
        x.go(31);
        Plates.type(x, "g5;w");
        x.save();
        x.undo();
        Check.due("the pad", x.count(18), 4);
        Check.due("no fault", x.fault(), -4);
        Check.due("eleven", x.count(0), 11);
        Check.due("the snapshot", x.restore(), 12);
        Check.due("undo()", x.undo(), 1);
        Check.due("eleven", x.count(0), 11);
    }

    private static void save() {
        Grains x = new Grains();
        Check.due("save()", x.save(), 1);
        x.begin(1);
        Check.due("save()", x.save(), 11);
        x.go(31);
        Check.due("save()", x.save(), 12);
        Check.due("no change", x.count(19), 2);
        x.begin(2);
        Check.due("the latest one", x.restore(), 12);
    }

    private static void restore() {
        Grains x = Plates.twoStems();
        x.set(RimGrains.WIND, 2);
        x.set(RimGrains.STICK, 3);
        x.breakOff(13);
        x.rain(7);
        x.save();
        String saved = Plates.state(x);
        int grains = x.count(0);
        x.begin(0);
        x.set(RimGrains.WIND, 4);
        x.set(RimGrains.STICK, 1);
        x.lot(5);
        x.rain(20);
        Plates.type(x, "w");
        Check.due("restore()", x.restore(), grains);
        Check.holds("as it was saved", saved.equals(Plates.state(x)));
        Check.due("the pad stays", x.count(18), 1);
        x.wash();
        Check.due("restore() again: the snapshot stays", x.restore(), grains);
        Check.holds("as it was saved", saved.equals(Plates.state(x)));
        x.breakOff(11);
        x.rain(20);
        x.undo();
        x.undo();
        Check.holds("the snapshot is not what is played on", saved.equals(Plates.state(x)));
    }

    private static void restoreIsAChange() {
        Grains x = new Grains();
        x.begin(1);
        x.save();
        String saved = Plates.state(x);
        x.go(31);
        x.go(32);
        String before = Plates.state(x);
        Check.due("restore()", x.restore(), 11);
        Check.due("the history is not restored", x.count(19), 4);
        Check.due("undo()", x.undo(), 3);
        Check.holds("as before the restore", before.equals(Plates.state(x)));
        Check.due("restore()", x.restore(), 11);
        Check.holds("as it was saved", saved.equals(Plates.state(x)));
        Grains y = new Grains();
        String nothing = Plates.everything(y);
        Check.due("no snapshot", y.restore(), -2);
        Check.holds("restore refused changes nothing", nothing.equals(Plates.everything(y)));
    }
}
