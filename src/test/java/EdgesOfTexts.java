/** The terms: texts; promises 9 to 13: append, clear, fault, carryOut, why. */
final class EdgesOfTexts {
    private static final int NONE = -4;
    private static final String DIGITS = "0123456789";

    private EdgesOfTexts() {
    }

    static void run() {
        pad();
        following();
        numbersAsDeeds();
        needlessZeros();
        faultOfAnyLength();
        append();
        appendOnAFullPad();
        clear();
        fault();
        carryOutInOrder();
        carryOutStops();
        carryOutEmptiesThePad();
        carryOutIsOneChange();
        carryOutOfAFullPad();
        carryOutRefuses();
        why();
        whyOfTheLatest();
        whyIsNotUndone();
        whyRefuses();
    }

    private static Grains typed(String text) {
        Grains x = new Grains();
        Plates.type(x, text);
        return x;
    }

    private static void faultIs(String text, int fault) {
        Grains x = typed(text);
        Check.due("fault of " + text, x.fault(), fault);
        Check.due("length of " + text, x.count(18), text.length());
    }

    private static void pad() {
        Doc.says("Texts", "There is a pad of at most 60 characters, initially empty.");
        Grains x = new Grains();
        Check.due("the length at first", x.count(18), 0);
        Check.due("nothing to clear", x.clear(), 0);
        for (int i = 1; i <= 60; i++) {
            Check.due("the " + i + "th character", x.append(33 + i), i);
        }
        Check.due("the 61st", x.append('w'), -3);
        Check.due("the length", x.count(18), 60);
    }

    /** What may follow on what; a text of no line here is made of the same parts. */
    private static void following() {
        Doc.says("Texts", "Deeds as a text are one or more deeds with \";\" between two: \"g\" and a number 0 to 39 (a"
                + " grain is let go at this cell of the rim), \"b\" and a number 0 to 120 (the grain of this number"
                + " breaks"
                + " off), or \"w\" (tips are washed away).");
        follow("gbw", "", "w;", "g0;", "g39;", "b0;", "b120;", "w;w;");
        follow(DIGITS, "g", "b", "w;g", "g7;b");
        follow(DIGITS + ";", "g1", "g2", "g3", "b1", "b2", "b5", "b9", "b10", "b11", "w;g3", "w;b11");
        follow("0;", "b12", "g39;b12");
        follow(";", "w", "g0", "g4", "g5", "g9", "g10", "g19", "g20", "g30", "g38", "g39", "b0", "b13", "b20", "b99",
                "b100", "b109", "b110", "b119", "b120", "w;w", "w;g39", "w;b120", "b120;g0");
    }

    private static void follow(String allowed, String... texts) {
        for (String text : texts) {
            for (char sign = 33; sign <= 126; sign++) {
                Grains x = typed(text);
                x.append(sign);
                boolean right = allowed.indexOf(sign) >= 0;
                boolean whole = sign == 'w' || DIGITS.indexOf(sign) >= 0;
                int length = text.length();
                Check.due("fault of " + text + sign, x.fault(), !right ? length : whole ? NONE : length + 1);
                if (!right) {
                    Plates.type(x, ";w");
                    Check.due("the first wrong one of " + text + sign + ";w", x.fault(), length);
                }
            }
        }
    }

    private static void numbersAsDeeds() {
        for (int rim = 0; rim <= 39; rim++) {
            Grains x = typed("g" + rim);
            Grains y = new Grains();
            Check.due("g" + rim, x.carryOut(), 1);
            y.go(rim);
            Check.holds("g" + rim + " as go(" + rim + ")", Plates.state(x).equals(Plates.state(y)));
        }
        for (int grain = 0; grain <= 120; grain++) {
            Grains x = Built.full();
            Plates.type(x, "b" + grain);
            Check.due("b" + grain + " on a full plate", x.carryOut(), grain <= 10 ? 0 : 1);
            Check.due("why(0)", x.why(0), grain <= 10 ? -2 : NONE);
            Grains y = Built.full();
            y.breakOff(grain);
            Check.due("b" + grain + " as breakOff(" + grain + ")", x.count(0), y.count(0));
            Check.due("and it is gone", x.cell(110 - 11 * (grain / 11) + grain % 11, 0) == NONE ? 1 : 0,
                    grain <= 10 ? 0 : 1);
        }
        Grains x = Built.full();
        Plates.type(x, "w");
        Check.due("w", x.carryOut(), 1);
        Grains y = Built.full();
        y.wash();
        Check.holds("w as wash()", Plates.state(x).equals(Plates.state(y)));
    }

    private static void needlessZeros() {
        Doc.says("Texts", "Numbers have no needless 0 ahead.");
        faultIs("g0", NONE);
        faultIs("b0", NONE);
        faultIs("g00", 2);
        faultIs("b00", 2);
        faultIs("g01", 2);
        faultIs("b01", 2);
        faultIs("g039", 2);
        faultIs("b0120", 2);
        faultIs("g10", NONE);
        faultIs("b100", NONE);
    }

    private static void faultOfAnyLength() {
        Doc.says("Texts",
                "The fault of the pad is the position, from 0, of the first character that is wrong: no text of"
                + " deeds, of any length, begins with the characters before it and this character; if there is none,"
                + " and"
                + " the pad is not complete (also if it is empty), the length of the pad.");
        faultIs("", 0);
        faultIs("x", 0);
        faultIs("g", 1);
        faultIs("w;", 2);
        String most = "w;".repeat(29);
        faultIs(most + "g3", NONE);
        faultIs(most + "ww", 59);
        faultIs(most + "w;", 60);
        faultIs(most + "g;", 59);
        faultIs(most + ";w", 58);
        String odd = "b0;" + "w;".repeat(28);
        faultIs(odd + "g", 60);
        faultIs(odd + "b", 60);
        faultIs(odd + "w", NONE);
        faultIs(odd + ";", 59);
        faultIs("w".repeat(60), 1);
        faultIs("x".repeat(60), 0);
    }

    private static void append() {
        Doc.says("Promise 9", "Appends a character to the pad.");
        Doc.says("Promise 9", "`code`: the character code, 33 to 126");
        Doc.says("Promise 9", "Returns the length of the pad then; INVALID_ARGUMENT;");
        Grains x = new Grains();
        int length = 0;
        for (int code = 33; code <= 126; code++) {
            if (length == 60) {
                length = 0;
                x.clear();
            }
            length++;
            Check.due("append(" + code + ")", x.append(code), length);
        }
        int[] wrong = {32, 127, 0, -1, 128, 256 + 'w', 65536 + 'w', Integer.MAX_VALUE, Integer.MIN_VALUE};
        for (int code : wrong) {
            Refusal.due("append(" + code + ")", Plates::busy, g -> g.append(code), -1);
            Refusal.due("append(" + code + ") on an empty pad", Grains::new, g -> g.append(code), -1);
        }
    }

    private static void appendOnAFullPad() {
        Doc.says("Promise 9", "LIMIT_REACHED if it has 60 characters.");
        Grains x = typed("w;".repeat(29) + "g");
        Check.due("the 60th", x.append('1'), 60);
        Check.due("the 61st", x.append(';'), -3);
        Check.due("the first text stays", x.fault(), NONE);
        x.clear();
        Check.due("room again", x.append('w'), 1);
        for (int code : new int[] {33, 'w', 126}) {
            Refusal.due("append(" + code + ") on a full pad", Plates::busyWithFullPad, g -> g.append(code), -3);
        }
        for (int code : new int[] {32, 127}) {
            Refusal.due("append(" + code + ") on a full pad", Plates::busyWithFullPad, g -> g.append(code), -1);
        }
    }

    private static void clear() {
        Doc.says("Promise 10", "Empties the pad.");
        Doc.says("Promise 10", "Returns the length that it had.");
        for (int length = 0; length <= 60; length++) {
            Grains x = typed("w;".repeat(30).substring(0, length));
            Check.due("clear() of " + length, x.clear(), length);
            Check.due("count(18)", x.count(18), 0);
            Check.due("fault()", x.fault(), 0);
            Check.due("clear() again", x.clear(), 0);
            Plates.type(x, "w");
            Check.due("a new text", x.fault(), NONE);
        }
    }

    private static void fault() {
        Doc.says("Promise 11", "Returns the fault of the pad.");
        Doc.says("Promise 11", "Returns the fault; NOT_FOUND if it has none.");
        faultIs("w", NONE);
        faultIs("g0;b120;w", NONE);
        faultIs("w;w;", 4);
        Grains x = typed("w;x");
        x.save();
        x.begin(2);
        x.undo();
        x.restore();
        x.rain(20);
        Check.due("the fault stays", x.fault(), 2);
        Check.due("also asked again", x.fault(), 2);
    }

    private static void carryOutInOrder() {
        Doc.says("Promise 12",
                "Carries out the deeds of the pad, one after the other, as go(), breakOff() and wash() do,");
        Doc.says("Promise 12", "Returns how many are carried out;");
        Grains x = new Grains();
        x.begin(1);
        Plates.type(x, "g31;g32;b11;g31;w;g31;g19");
        Check.due("carryOut()", x.carryOut(), 7);
        Grains y = new Grains();
        y.begin(1);
        y.go(31);
        y.go(32);
        y.breakOff(11);
        y.go(31);
        y.wash();
        y.go(31);
        y.go(19);
        Check.holds("as the calls", Plates.state(x).equals(Plates.state(y)));
        Check.due("grains", x.count(0), 13);
        Check.due("gone", x.count(9), 3);
        Grains lost = typed("g5;g5");
        Check.due("grains that are lost are no error", lost.carryOut(), 2);
        Check.due("why(0)", lost.why(0), NONE);
        Check.due("lost", lost.count(8), 2);
        Check.due("w that washes none away", typed("w").carryOut(), 1);
    }

    private static void carryOutStops() {
        Doc.says("Promise 12", "up to the first one that returns an error,");
        stops("g20;w", -2, 0, 0);
        stops("g30", -2, 0, 0);
        stops("b0;w", -2, 0, 0);
        stops("b10;w", -2, 0, 0);
        stops("b11;w", -1, 0, 0);
        stops("b120;w", -1, 0, 0);
        stops("g31;b11;b11;w", -1, 2, 8);
        stops("g31;w;b11", -1, 2, 6);
        stops("g31;g31;g32", -2, 1, 4);
        stops("w;w;w;w;w;b10", -2, 5, 10);
    }

    private static void stops(String text, int error, int number, int place) {
        Grains x = new Grains();
        x.begin(1);
        Plates.type(x, text);
        Check.due("carryOut() of " + text, x.carryOut(), number);
        Check.due("why(0) of " + text, x.why(0), error);
        Check.due("why(1) of " + text, x.why(1), number);
        Check.due("why(2) of " + text, x.why(2), place);
        Check.due("the pad behind " + text, x.count(18), 0);
        Grains y = new Grains();
        y.begin(1);
        Plates.type(y, place == 0 ? "" : text.substring(0, place - 1));
        y.carryOut();
        Check.holds("no deed behind the stop of " + text, Plates.state(x).equals(Plates.state(y)));
    }

    private static void carryOutEmptiesThePad() {
        Doc.says("Promise 12", "and empties the pad.");
        for (String text : new String[] {"w", "b0", "w;b0;w"}) {
            Grains x = typed(text);
            x.carryOut();
            Check.due("the pad behind " + text, x.count(18), 0);
            Check.due("its fault", x.fault(), 0);
            Check.due("nothing is left to carry out", x.carryOut(), -2);
            Check.due("nothing is left to clear", x.clear(), 0);
        }
    }

    private static void carryOutIsOneChange() {
        Doc.says("Promise 12", "This is one change, also if none is carried out.");
        for (String text : new String[] {"g31;g32;g33;g34;g35;w", "b0", "b0;w", "g31;b0"}) {
            Grains x = new Grains();
            x.begin(1);
            x.undo();
            String before = Plates.state(x);
            Plates.type(x, text);
            x.carryOut();
            Check.due("states behind " + text, x.count(19), 1);
            Check.due("undo() of " + text, x.undo(), 0);
            Check.holds("all of " + text + " is undone", before.equals(Plates.state(x)));
            Check.due("the pad does not come back", x.count(18), 0);
        }
        Grains x = new Grains();
        for (int lot = 1; lot <= 4; lot++) {
            x.lot(100 * lot);
        }
        Plates.type(x, "b0");
        x.carryOut();
        Check.due("states are dropped", x.count(19), 4);
        for (int i = 0; i < 4; i++) {
            x.undo();
        }
        Check.due("the first state is dropped", x.count(17), 100);
    }

    private static void carryOutOfAFullPad() {
        Grains x = typed("w;".repeat(29) + "g5");
        Check.due("thirty deeds in 60 characters", x.carryOut(), 30);
        Check.due("the last one was carried out", x.count(7), 1);
        Check.due("all", x.why(0), NONE);
        x = typed("w;".repeat(29) + "b0");
        Check.due("all but the last one", x.carryOut(), 29);
        whyIs(x, "in the last of thirty", -2, 29, 58);
        x = typed("w;".repeat(28) + "b120");
        Check.due("all but the last one", x.carryOut(), 28);
        whyIs(x, "in the last place of the pad", -1, 28, 56);
        x = Built.plate(1);
        Plates.type(x, "g31;g32;g33;g34;g35;g36;g37;g38;g39;g0;g1;g2;g3;g4;g5;g6;g7");
        Check.due("sixty characters of grains", x.carryOut(), 17);
        Check.due("around the rim", x.count(4), 17);
    }

    private static void carryOutRefuses() {
        Doc.says("Promise 12", "NOT_POSSIBLE if the pad has a fault.");
        Refusal.due("carryOut() of an empty pad", Grains::new, RimGrains::carryOut, -2);
        Refusal.due("carryOut() of an open pad", Plates::busyWithOpenPad, RimGrains::carryOut, -2);
        String[] texts = {"g", "b", ";", "w;", "x", "g40", "b121", "g01", "w;w;w0", "w;;w"};
        for (String text : texts) {
            Refusal.due("carryOut() of " + text, () -> typed(text), RimGrains::carryOut, -2);
        }
        Grains x = typed("w;b0;");
        Check.due("also not the whole deeds before the fault", x.carryOut(), -2);
        Check.due("the pad stays", x.count(18), 5);
        Check.due("no change", x.count(19), 0);
        x.append('w');
        Check.due("with the rest it is carried out", x.carryOut(), 1);
    }

    private static void whyIs(Grains x, String when, int error, int number, int place) {
        Check.due("why(0) " + when, x.why(0), error);
        Check.due("why(1) " + when, x.why(1), number);
        Check.due("why(2) " + when, x.why(2), place);
    }

    private static void why() {
        Doc.says("Promise 13", "`what`: 0: the error that it returned; 1: its number among the deeds, from 0; 2: the"
                + " position of its letter in the pad");
        Doc.says("Promise 13", "Returns the number; INVALID_ARGUMENT;");
        Grains x = typed("b0");
        x.carryOut();
        whyIs(x, "in the first deed", -2, 0, 0);
        x = typed("b100");
        x.carryOut();
        whyIs(x, "without such a grain", -1, 0, 0);
        x = typed("g5;w;b100;b0");
        x.carryOut();
        whyIs(x, "in the third deed", -1, 2, 5);
    }

    private static void whyOfTheLatest() {
        Doc.says("Promise 13", "Tells about the deed at which the latest call of carryOut() that returned no error"
                + " stopped.");
        Grains x = typed("w;b0");
        x.carryOut();
        whyIs(x, "behind the first stop", -2, 1, 2);
        x.carryOut();
        whyIs(x, "behind a call that returned an error", -2, 1, 2);
        Plates.type(x, "b99");
        whyIs(x, "while a text is appended", -2, 1, 2);
        x.carryOut();
        whyIs(x, "behind the second stop", -1, 0, 0);
        x.breakOff(0);
        x.go(99);
        x.begin(1);
        x.go(25);
        whyIs(x, "behind errors of other calls", -1, 0, 0);
        Doc.says("Promise 13", "NOT_FOUND if there was no such call, or all its deeds were carried out.");
        Plates.type(x, "w;w");
        x.carryOut();
        whyIs(x, "behind all deeds", NONE, NONE, NONE);
        x.append('g');
        x.carryOut();
        whyIs(x, "behind an error", NONE, NONE, NONE);
        whyIs(new Grains(), "at first", NONE, NONE, NONE);
        whyIs(Built.full(), "with no text at all", NONE, NONE, NONE);
        x = typed("x");
        x.carryOut();
        whyIs(x, "behind an error alone", NONE, NONE, NONE);
    }

    private static void whyIsNotUndone() {
        Doc.says("Promise 13", "(This is not a part of what is undone, or restored.)");
        Grains x = typed("w;b0");
        x.save();
        x.carryOut();
        x.undo();
        whyIs(x, "behind undo()", -2, 1, 2);
        x.restore();
        whyIs(x, "behind restore()", -2, 1, 2);
        x.begin(0);
        whyIs(x, "behind begin()", -2, 1, 2);
        x.save();
        Plates.type(x, "w");
        x.carryOut();
        x.undo();
        whyIs(x, "behind undo() of all deeds", NONE, NONE, NONE);
        x.restore();
        whyIs(x, "behind restore() of what was before", NONE, NONE, NONE);
    }

    private static void whyRefuses() {
        for (int what : new int[] {-1, 3, Integer.MIN_VALUE, Integer.MAX_VALUE}) {
            Refusal.due("why(" + what + ") without a stop", Grains::new, g -> g.why(what), -1);
            Refusal.due("why(" + what + ") with a stop", Plates::busy, g -> g.why(what), -1);
        }
        for (int what = 0; what <= 2; what++) {
            int asked = what;
            Refusal.due("why(" + what + ")", Grains::new, g -> g.why(asked), NONE);
        }
        whyIs(Plates.busy(), "of the busy plate", -2, 2, 6);
    }
}
