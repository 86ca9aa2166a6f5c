/** Runs of calls drawn by a fixed rule, on the program and on the model: every answer is compared. */
public final class ModelTest {
    private static final int RUNS = 400;
    private static final int CALLS_TO_A_SWEEP = 160;
    private static final int MOST_CALLS_OF_A_TEXT = 160;
    private static final int MOST_SIGNS = 70;

    private static long seed = 20261119L;
    private static String where = "";

    private ModelTest() {
    }

    public static void main(String[] args) {
        for (int run = 0; run < RUNS; run++) {
            runOnce(run);
        }
        Check.end("ModelTest");
    }

    private static int pick(int bound) {
        seed = seed * 6364136223846793005L + 1442695040888963407L;
        return (int) ((seed >>> 33) % bound);
    }

    /** Mostly within the range, sometimes at or beyond its edges. */
    private static int near(int least, int most) {
        int odd = pick(24);
        switch (odd) {
            case 0: return least - 1;
            case 1: return most + 1;
            case 2: return least;
            case 3: return most;
            case 4: return pick(2) == 0 ? Integer.MIN_VALUE : Integer.MAX_VALUE;
            default: return least + pick(most - least + 1);
        }
    }

    private static void runOnce(int run) {
        Grains program = new Grains();
        Model model = new Model();
        int opening = run % 5;
        if (opening >= 1) {
            due("begin", program.begin(opening % 3), model.begin(opening % 3));
        }
        if (opening >= 2) {
            int wind = pick(5);
            due("set", program.set(2, wind), model.set(2, wind));
        }
        int sweeps = 0;
        while (program.made() < Grains.MOST_CALLS) {
            where = "run " + run + " call " + program.made() + ": ";
            int kind = pick(12);
            if (kind < 5) {
                change(program, model);
            } else if (kind < 6 && program.made() < Grains.MOST_CALLS - MOST_CALLS_OF_A_TEXT) {
                text(program, model);
            } else {
                look(program, model);
            }
            if (program.made() / CALLS_TO_A_SWEEP > sweeps) {
                sweeps++;
                sweep(program.copy(), model);
            }
        }
    }

    private static void due(String call, int got, int want) {
        Check.due(where + call, got, want);
    }

    private static void change(Grains program, Model model) {
        int a = near(0, 39);
        int b;
        switch (pick(20)) {
            case 0:
                if (pick(8) == 0) {
                    a = near(0, 2);
                    due("begin", program.begin(a), model.begin(a));
                }
                break;
            case 1:
                a = near(0, 9999);
                due("lot", program.lot(a), model.lot(a));
                break;
            case 2: case 3: case 4: case 5: case 6:
                due("go " + a, program.go(a), model.go(a));
                break;
            case 7: case 8: case 9: case 10: case 11:
                a = near(1, 20);
                due("rain " + a, program.rain(a), model.rain(a));
                break;
            case 12:
                a = near(0, model.count(0) - 1);
                due("breakOff " + a, program.breakOff(a), model.breakOff(a));
                break;
            case 13:
                if (pick(4) == 0) {
                    due("wash", program.wash(), model.wash());
                }
                break;
            case 14: case 15:
                a = near(0, 3);
                b = a == 0 ? near(1, 4) : a == 1 ? near(10, 200) : a == 2 ? near(0, 4) : near(0, 3);
                due("set " + a + " " + b, program.set(a, b), model.set(a, b));
                break;
            case 16: case 17:
                due("undo", program.undo(), model.undo());
                break;
            case 18:
                due("save", program.save(), model.save());
                break;
            default:
                if (pick(4) == 0) {
                    due("restore", program.restore(), model.restore());
                }
                break;
        }
    }

    private static void text(Grains program, Model model) {
        switch (pick(8)) {
            case 0:
                due("clear", program.clear(), model.clear());
                break;
            case 1:
                int code = near(33, 126);
                due("append", program.append(code), model.append(code));
                break;
            case 2:
                due("fault", program.fault(), model.fault());
                break;
            case 3:
                due("carryOut", program.carryOut(), model.carryOut());
                break;
            default:
                type(program, model, deeds(model));
                due("fault", program.fault(), model.fault());
                due("carryOut", program.carryOut(), model.carryOut());
                for (int what = -1; what < 4; what++) {
                    due("why " + what, program.why(what), model.why(what));
                }
                break;
        }
    }

    private static void type(Grains program, Model model, String text) {
        boolean eachFault = pick(4) == 0;
        for (int i = 0; i < text.length(); i++) {
            due("append", program.append(text.charAt(i)), model.append(text.charAt(i)));
            if (eachFault) {
                due("fault after " + text.substring(0, i + 1), program.fault(), model.fault());
            }
        }
    }

    private static String deeds(Model model) {
        StringBuilder text = new StringBuilder();
        int deeds = 1 + pick(pick(5) == 0 ? 24 : 4);
        for (int i = 0; i < deeds; i++) {
            text.append(i > 0 || pick(30) == 0 ? ";" : "");
            int kind = pick(12);
            if (kind < 7) {
                text.append('g').append(pick(30) == 0 ? pick(60) : pick(40));
            } else if (kind < 10) {
                text.append('b').append(pick(4) == 0 ? pick(130) : pick(model.count(0)));
            } else {
                text.append('w');
            }
        }
        if (pick(8) == 0) {
            text.insert(pick(text.length() + 1), "0;gbw9 x1:/".charAt(pick(11)));
        }
        text.setLength(Math.min(text.length(), MOST_SIGNS));
        return text.toString();
    }

    private static void look(Grains program, Model model) {
        int a = near(0, model.count(0) - 1);
        int b = near(0, model.count(0) - 1);
        int what;
        switch (pick(10)) {
            case 0:
                a = near(0, 120);
                what = near(0, 3);
                due("cell " + a + " " + what, program.cell(a, what), model.cell(a, what));
                break;
            case 1: case 2:
                what = near(0, 8);
                due("grain " + a + " " + what, program.grain(a, what), model.grain(a, what));
                break;
            case 3:
                a = near(0, 39);
                due("screens " + a, program.screens(a), model.screens(a));
                break;
            case 4:
                a = near(0, 5);
                due("ring " + a, program.ring(a), model.ring(a));
                break;
            case 5:
                due("apart " + a + " " + b, program.apart(a, b), model.apart(a, b));
                break;
            case 6:
                a = near(0, 1);
                due("longest " + a, program.longest(a), model.longest(a));
                break;
            case 7:
                what = near(0, 19);
                due("count " + what, program.count(what), model.count(what));
                Check.dueDouble(where + "density", program.density(), model.density());
                break;
            case 8:
                a = near(0, 39);
                what = near(0, 2);
                due("ifGone " + a + " " + what, program.ifGone(a, what), model.ifGone(a, what));
                break;
            default:
                what = near(0, 3);
                due("ifBroken " + a + " " + what, program.ifBroken(a, what), model.ifBroken(a, what));
                break;
        }
    }

    private static void sweep(Grains program, Model model) {
        int grains = model.count(0);
        for (int what = -1; what <= 20; what++) {
            due("count " + what, program.count(what), model.count(what));
        }
        for (int cell = -1; cell <= 121; cell++) {
            for (int what = -1; what <= 4; what++) {
                due("cell " + cell + " " + what, program.cell(cell, what), model.cell(cell, what));
            }
        }
        for (int rim = -1; rim <= 40; rim++) {
            due("screens " + rim, program.screens(rim), model.screens(rim));
            for (int what = -1; what <= 3; what++) {
                due("ifGone " + rim + " " + what, program.ifGone(rim, what), model.ifGone(rim, what));
            }
        }
        for (int ring = -1; ring <= 6; ring++) {
            due("ring " + ring, program.ring(ring), model.ring(ring));
        }
        for (int way = -1; way <= 2; way++) {
            due("longest " + way, program.longest(way), model.longest(way));
        }
        sweepGrains(program, model, grains);
        Check.dueDouble(where + "density", program.density(), model.density());
    }

    private static void sweepGrains(Grains program, Model model, int grains) {
        for (int grain = -1; grain <= grains; grain++) {
            for (int what = -1; what <= 9; what++) {
                due("grain " + grain + " " + what, program.grain(grain, what), model.grain(grain, what));
            }
            for (int what = -1; what <= 4; what++) {
                due("ifBroken " + grain + " " + what, program.ifBroken(grain, what), model.ifBroken(grain, what));
            }
            for (int other = -1; other <= grains; other += 3) {
                due("apart " + grain + " " + other, program.apart(grain, other), model.apart(grain, other));
            }
        }
    }
}
