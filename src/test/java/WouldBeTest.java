/** Promises 22 and 23: ifGone, ifBroken. */
public final class WouldBeTest {
    private WouldBeTest() {
    }

    public static void main(String[] args) {
        ifGone();
        ifGoneAsGo();
        ifGoneRefuses();
        ifBroken();
        ifBrokenAsBreakOff();
        ifBrokenRefuses();
        Check.end("WouldBeTest");
    }

    private static void gone(Grains x, int rim, int answer, int place, int draws) {
        Check.due("ifGone(" + rim + ", 0)", x.ifGone(rim, 0), answer);
        Check.due("ifGone(" + rim + ", 1)", x.ifGone(rim, 1), place);
        Check.due("ifGone(" + rim + ", 2)", x.ifGone(rim, 2), draws);
    }

    private static void ifGone() {
        Grains x = new Grains();
        gone(x, 5, 1, 5, 1);
        x.lot(2084);
        gone(x, 5, 60, 5, 60);
        x.set(RimGrains.PATIENCE, 10);
        gone(x, 5, 10, 15, 10);
        x.begin(1);
        x.lot(2084);
        gone(x, 31, 1099, 99, 1);
        x.set(RimGrains.STICK, 3);
        gone(x, 31, 1099, 99, 3);
        x.set(RimGrains.STICK, 1);
        x.lot(2030);
        gone(x, 31, 2, 88, 3);
        x.begin(0);
        x.set(RimGrains.WIND, 4);
        x.set(RimGrains.STICK, 4);
        x.lot(1);
        gone(x, 5, 1049, 49, 9);
    }

    private static void ifGoneAsGo() {
        Grains x = Plates.grown();
        x.set(RimGrains.STICK, 2);
        for (int rim = 0; rim < 40; rim++) {
            int before = x.count(17);
            String state = Plates.everything(x);
            int answer = x.ifGone(rim, 0);
            int place = x.ifGone(rim, 1);
            int draws = x.ifGone(rim, 2);
            Check.holds("ifGone changes nothing", state.equals(Plates.everything(x)));
            Check.due("go(" + rim + ")", x.go(rim), answer);
            if (answer >= 1000) {
                Check.due("the place", place, answer - 1000);
            }
            for (int i = 0; i < draws; i++) {
                before = (421 * before + 1663) % 10000;
            }
            Check.due("the lot then", x.count(17), answer < 0 ? x.count(17) : before);
        }
    }

    private static void ifGoneRefuses() {
        Grains x = Plates.twoStems();
        String before = Plates.everything(x);
        for (int what = 0; what <= 2; what++) {
            Check.due("a root there", x.ifGone(25, what), -2);
            Check.due("a grain there", x.ifGone(31, what), -2);
            Check.due("ifGone(-1)", x.ifGone(-1, what), -1);
            Check.due("ifGone(40)", x.ifGone(40, what), -1);
        }
        Check.due("ifGone(0, -1)", x.ifGone(0, -1), -1);
        Check.due("ifGone(0, 3)", x.ifGone(0, 3), -1);
        Check.due("wrong rather than not possible", x.ifGone(25, 3), -1);
        Check.due("wrong rather than not possible", x.ifGone(25, -1), -1);
        Check.holds("changes nothing", before.equals(Plates.everything(x)));
    }

    private static void broken(Grains x, int grain, int left, int reach, int depth, int open) {
        Check.due("ifBroken(" + grain + ", 0)", x.ifBroken(grain, 0), left);
        Check.due("ifBroken(" + grain + ", 1)", x.ifBroken(grain, 1), reach);
        Check.due("ifBroken(" + grain + ", 2)", x.ifBroken(grain, 2), depth);
        Check.due("ifBroken(" + grain + ", 3)", x.ifBroken(grain, 3), open);
    }

    private static void ifBroken() {
        Grains x = Plates.twoStems();
        broken(x, 11, 13, 5, 2, 14);
        broken(x, 13, 15, 5, 2, 14);
        broken(x, 14, 16, 5, 3, 12);
        broken(x, 15, 15, 5, 4, 10);
        x = Plates.fullRim();
        broken(x, 11, 11, 5, 0, 18);
        broken(x, x.cell(109, 0), 39, 5, 28, 0);
        x = Plates.doubleT();
        broken(x, 1, 14, 5, 9, 12);
        broken(x, 6, 14, 5, 9, 12);
        broken(x, 11, 23, 5, 9, 4);
        x.breakOff(6);
        broken(x, 5, 5, 4, 4, 40 - 12);
        broken(x, 1, 1, 0, 0, 36);
    }

    private static void ifBrokenAsBreakOff() {
        Grains x = Plates.grown();
        for (int grain = 1; grain < x.count(0); grain++) {
            String before = Plates.everything(x);
            int left = x.ifBroken(grain, 0);
            int reach = x.ifBroken(grain, 1);
            int depth = x.ifBroken(grain, 2);
            int open = x.ifBroken(grain, 3);
            Check.holds("ifBroken changes nothing", before.equals(Plates.everything(x)));
            Check.due("gone", x.breakOff(grain), x.count(7) - x.count(8) + 1 - left);
            Check.due("left", x.count(0), left);
            Check.due("reach", x.count(5), reach);
            Check.due("depth", x.count(4), depth);
            int unscreened = 0;
            for (int rim = 0; rim < 40; rim++) {
                unscreened += x.screens(rim) == -4 ? 1 : 0;
            }
            Check.due("unscreened", unscreened, open);
            x.undo();
        }
    }

    private static void ifBrokenRefuses() {
        Grains x = Plates.twoStems();
        String before = Plates.everything(x);
        for (int what = 0; what <= 3; what++) {
            Check.due("a root", x.ifBroken(10, what), -2);
            Check.due("ifBroken(-1)", x.ifBroken(-1, what), -1);
            Check.due("ifBroken(17)", x.ifBroken(17, what), -1);
            Check.due("ifBroken(MAX)", x.ifBroken(Integer.MAX_VALUE, what), -1);
        }
        Check.due("ifBroken(11, -1)", x.ifBroken(11, -1), -1);
        Check.due("ifBroken(11, 4)", x.ifBroken(11, 4), -1);
        Check.due("wrong rather than not possible", x.ifBroken(0, 4), -1);
        Check.holds("changes nothing", before.equals(Plates.everything(x)));
    }
}
