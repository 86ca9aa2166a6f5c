/** The terms: lots, walks, settings. */
final class EdgesOfWalks {
    private EdgesOfWalks() {
    }

    static void run() {
        range();
        wrapAround();
        allLots();
        letGo();
        chances();
        lowestDirection();
        patience();
        patienceBesideGrains();
        lastStep();
        longestWalk();
        winds();
        blockedSteps();
        settings();
        settingsStay();
    }

    private static void range() {
        Doc.says("Grains", "Lots, walks There is a lot x, 0 to 9999 (1 at first).");
        Grains x = new Grains();
        Check.due("at first", x.count(17), 1);
        Check.due("the least", x.lot(0), 1);
        Check.due("the greatest", x.lot(9999), 0);
        Check.due("it is", x.count(17), 9999);
        Check.due("below the least", x.lot(-1), -1);
        Check.due("above the greatest", x.lot(10000), -1);
    }

    /** On a full rim rain(1) draws one lot and does nothing else with it. */
    private static void wrapAround() {
        Doc.says("Grains", "To draw a lot makes it (421 * x + 1663) modulo 10000.");
        int[][] draws = {
            {0, 1663}, {1, 2084}, {19, 9662}, {20, 83}, {9616, 9999}, {7597, 0}, {5578, 1}, {9998, 821}, {9999, 1242}};
        for (int[] draw : draws) {
            Grains x = Plates.fullRim();
            x.lot(draw[0]);
            x.rain(1);
            Check.due("the lot behind " + draw[0], x.count(17), draw[1]);
            x = new Grains();
            x.lot(draw[0]);
            int drawn = x.ifGone(5, 2);
            x.go(5);
            Check.due("the lots of go() behind " + draw[0], x.count(17), Lots.after(draw[1], drawn - 1));
        }
    }

    private static void allLots() {
        Grains x = null;
        for (int lot = 0; lot < 10000; lot++) {
            if (lot % 200 == 0) {
                x = Plates.fullRim();
            }
            x.lot(lot);
            x.rain(1);
            Check.due("the lot behind " + lot, x.count(17), (lot * 421L + 1663L) % 10000L);
        }
    }

    private static void letGo() {
        Doc.says("Grains", "A grain is let go at a cell of the rim that has no grain.");
        Grains x = new Grains();
        x.begin(1);
        Check.due("the last free cell before the row 10", x.ifGone(19, 0), 1109);
        Check.due("the first taken one", x.ifGone(20, 0), -2);
        Check.due("the last taken one", x.ifGone(30, 0), -2);
        Check.due("the first free one behind it", x.ifGone(31, 0), 1099);
    }

    /** Let go above the root 110; lots go down by 1 in their remainder by 4, so all goes on as the first one says. */
    private static void chances() {
        Doc.says("Grains", "Then, time and again: if a neighbouring cell has a grain, a lot is drawn, and if the"
                + " remainder of the lot by 4 is below STICK, the grain sticks: it stays there,");
        for (int stick = 1; stick <= 4; stick++) {
            for (int first = 0; first <= 3; first++) {
                chance(stick, first);
            }
        }
        Grains x = new Grains();
        x.set(RimGrains.STICK, 1);
        x.lot(Lots.leadingTo(4, 0));
        Check.due("no lot is drawn where no grain is beside: up, off the plate", x.ifGone(5, 2), 1);
    }

    private static void chance(int stick, int first) {
        Grains x = new Grains();
        x.begin(1);
        x.set(RimGrains.STICK, stick);
        x.lot(Lots.leadingTo(4, first));
        String call = "STICK " + stick + ", the remainder " + first + ": ";
        if (first < stick) {
            goes(call + "sticks at once", x, 31, 1099, 99, 1, 0);
        } else if (first == 3 && stick >= 2) {
            goes(call + "down, where a grain is, then 1 sticks", x, 31, 1099, 99, 3, 1);
        } else if (first == 3) {
            goes(call + "down, where a grain is, up by 0, off by 3", x, 31, 3, 88, 5, 3);
        } else if (first == 2) {
            goes(call + "to the right by 1, then 0 sticks", x, 31, 1100, 100, 3, 1);
        } else {
            goes(call + "up by 0, off by 3", x, 31, 2, 88, 3, 2);
        }
    }

    private static void goes(String call, Grains x, int rim, int answer, int place, int draws, int steps) {
        int lot = x.count(17);
        int grains = x.count(0);
        int walked = x.count(10);
        Check.due(call + ", ifGone 0", x.ifGone(rim, 0), answer);
        Check.due(call + ", ifGone 1", x.ifGone(rim, 1), place);
        Check.due(call + ", ifGone 2", x.ifGone(rim, 2), draws);
        Check.due(call + ", go()", x.go(rim), answer);
        Check.due(call + ", the lot", x.count(17), Lots.after(lot, draws));
        Check.due(call + ", steps", x.count(10) - walked, steps);
        Check.due(call + ", grains", x.count(0), answer >= 1000 ? grains + 1 : grains);
        Check.due(call + ", the newest at its place", x.cell(place, 0), answer >= 1000 ? grains : -4);
        Check.due(call + ", its steps", x.grain(grains, 8), answer >= 1000 ? steps : -1);
    }

    private static void lowestDirection() {
        Doc.says("Grains", "and holds on to the grain in the lowest direction.");
        holds("up alone", Built.plate(0, 71, 82, 93, 104), 25, 104);
        holds("right alone", Built.plate(0, 49, 38, 27, 16, 5), 4, 5);
        holds("down alone", Built.plate(1), 31, 110);
        holds("left alone", Built.plate(0, 49, 38, 27, 16, 5), 6, 5);
        holds("up and right", Built.plate(1, 100, 89, 78, 77), 32, 77);
        Grains gap = Plates.fullRim();
        gap.breakOff(39);
        holds("up and down", gap, 19, 98);
        holds("up and left", Built.plate(1, 108, 97, 86, 87), 18, 87);
        holds("right and down", Built.plate(1, 100), 31, 100);
        holds("right and left", Built.plate(0, 49, 38, 27, 26, 28, 15, 17, 4, 6), 5, 6);
        holds("down and left", Built.plate(1, 108), 19, 120);
        holds("up, right and down", Built.plate(1, 100, 89, 88), 31, 88);
        holds("up, right and left", Built.plate(0, 71, 82, 93, 104, 103, 105, 114, 116), 25, 104);
        holds("up, down and left", Built.plate(1, 108, 97, 98), 19, 98);
        holds("right, down and left", Built.plate(0, 49, 38, 27, 16, 15, 17, 4, 6), 5, 6);
    }

    private static void holds(String directions, Grains x, int rim, int holderCell) {
        int lot = x.count(17);
        Check.due(directions + ": sticks at once", x.go(rim), 1000 + Plates.RIM[rim]);
        Check.due(directions + ": one lot for all of them", x.count(17), Lots.next(lot));
        Check.due(directions + ": the holder", x.grain(x.count(0) - 1, 1), x.cell(holderCell, 0));
    }

    /** By 2, 1, 0, 3 and so on the walk goes around a square: down, right, up, left. */
    private static void patience() {
        Doc.says("Grains", "Otherwise, if it made as many steps as PATIENCE tells, it is lost.");
        int[] square = {5, 16, 17, 6};
        for (int patience : new int[] {10, 11, 60, 199, 200}) {
            Grains x = new Grains();
            x.set(RimGrains.PATIENCE, patience);
            x.lot(Lots.leadingTo(4, 2));
            goes("PATIENCE " + patience, x, 5, patience, square[patience % 4], patience, patience);
            Check.due("lost", x.count(8), 1);
        }
    }

    /** Between the grains 98 and 120 with STICK 1: 3 does not stick, down by 2, 1 does not stick, up by 0,
            and so on. */
    private static void patienceBesideGrains() {
        for (int patience : new int[] {10, 200}) {
            Grains x = Plates.fullRim();
            x.breakOff(39);
            x.set(RimGrains.STICK, 1);
            x.set(RimGrains.PATIENCE, patience);
            x.lot(Lots.leadingTo(4, 3));
            goes("a step all the same, PATIENCE " + patience, x, 19, patience, 109, 2 * patience + 1, patience);
            Check.due("lost", x.count(8), 1);
        }
    }

    private static void lastStep() {
        Grains x = windy(2, 0, 903);
        x.set(RimGrains.PATIENCE, 11);
        goes("sticks behind as many steps as PATIENCE tells", x, 2, 1049, 49, 12, 11);
        x = windy(2, 0, 903);
        x.set(RimGrains.PATIENCE, 10);
        goes("is lost one step before", x, 2, 10, 38, 10, 10);
        x = windy(2, 0, 882);
        x.set(RimGrains.PATIENCE, 10);
        goes("sticks behind the last step", x, 15, 1049, 49, 11, 10);
        x = windy(2, 0, 882);
        x.set(RimGrains.PATIENCE, 10);
        x.set(RimGrains.STICK, 3);
        goes("does not stick behind the last step: no lot more", x, 15, 10, 49, 11, 10);
    }

    /** Few walks are that long and stick: the plate and the lot were looked for by trying many. */
    private static void longestWalk() {
        for (int patience : new int[] {199, 200}) {
            Grains x = new Grains();
            x.begin(2);
            x.set(RimGrains.WIND, 2);
            x.set(RimGrains.WAY, 3);
            x.lot(9873);
            Check.due("six stick", x.rain(20), 6);
            x.set(RimGrains.WIND, 3);
            x.set(RimGrains.STICK, 1);
            x.set(RimGrains.PATIENCE, patience);
            x.lot(7414);
            if (patience == 200) {
                goes("sticks behind the greatest number of steps", x, 23, 1116, 116, 394, 200);
                Check.due("its holder", x.grain(22, 1), 17);
            } else {
                goes("is lost one step before", x, 23, 199, 117, 392, 199);
            }
        }
    }

    private static Grains windy(int wind, int way, int lot) {
        Grains x = new Grains();
        x.set(RimGrains.WIND, wind);
        x.set(RimGrains.WAY, way);
        x.lot(lot);
        return x;
    }

    /** At the four edges one sees in which direction the first step leads. */
    private static void winds() {
        Doc.says("Grains",
                "Otherwise a lot is drawn, with v as the remainder of the lot by the number 4 + WIND: it makes"
                + " a step in the direction v, if v is below 4, otherwise in the direction WAY.");
        int[] edges = {5, 15, 25, 35};
        for (int wind = 0; wind <= 4; wind++) {
            for (int v = 0; v < 4 + wind; v++) {
                for (int way = 0; way <= 3; way++) {
                    Grains x = windy(wind, way, Lots.leadingTo(4 + wind, v));
                    for (int edge = 0; edge < 4; edge++) {
                        Check.due("WIND " + wind + ", v " + v + ", WAY " + way + " at the edge " + edge,
                                x.ifGone(edges[edge], 0) == 1 ? 1 : 0, (v < 4 ? v : way) == edge ? 1 : 0);
                    }
                }
            }
        }
    }

    private static void blockedSteps() {
        Doc.says("Grains", "if the cell has a grain, it stays where it is (it was a step all the same).");
        for (int way = 0; way <= 3; way++) {
            for (int v : new int[] {way, 4, 6}) {
                Grains x = blocked(way);
                x.set(RimGrains.STICK, 1);
                x.set(RimGrains.WIND, 3);
                x.set(RimGrains.WAY, way);
                x.lot(Lots.leadingTo(4, 2, 7, v, 4, 0));
                int rim = way == 0 ? 25 : way == 1 ? 4 : way == 2 ? 31 : 6;
                goes("no way in the direction " + way + " by " + v, x, rim, 1000 + Plates.RIM[rim], Plates.RIM[rim], 3,
                        1);
            }
        }
    }

    private static Grains blocked(int way) {
        return way == 0 ? Built.plate(0, 71, 82, 93, 104) : way == 2 ? Built.plate(1)
                : Built.plate(0, 49, 38, 27, 16, 5);
    }

    private static void settings() {
        Doc.says("Settings",
                "(In parentheses: range; first value.) STICK (1 to 4; 4), PATIENCE (10 to 200; 60), WIND (0"
                + " to 4; 0), WAY (0 to 3; 2).");
        int[] least = {1, 10, 0, 0};
        int[] most = {4, 200, 4, 3};
        int[] first = {4, 60, 0, 2};
        for (int what = 0; what <= 3; what++) {
            Grains x = new Grains();
            Check.due("first value of " + what, x.count(13 + what), first[what]);
            Check.due("below the range of " + what, x.set(what, least[what] - 1), -1);
            Check.due("above the range of " + what, x.set(what, most[what] + 1), -1);
            Check.due("unchanged", x.count(13 + what), first[what]);
            for (int value = least[what]; value <= most[what]; value++) {
                int before = x.count(13 + what);
                Check.due("set(" + what + ", " + value + ")", x.set(what, value), before);
                Check.due("count(" + (13 + what) + ")", x.count(13 + what), value);
            }
            for (int other = 0; other <= 3; other++) {
                Check.due("others stay", x.count(13 + other), other == what ? most[what] : first[other]);
            }
        }
    }

    private static void settingsStay() {
        Doc.says("Settings", "They stay at a beginning.");
        int[] least = {1, 10, 0, 0};
        int[] most = {4, 200, 4, 3};
        for (int beginning = 0; beginning <= 2; beginning++) {
            Grains x = new Grains();
            for (int[] values : new int[][] {least, most}) {
                for (int what = 0; what <= 3; what++) {
                    x.set(what, values[what]);
                }
                x.begin(beginning);
                for (int what = 0; what <= 3; what++) {
                    Check.due("setting " + what + " behind begin(" + beginning + ")", x.count(13 + what), values[what]);
                }
            }
        }
    }
}
