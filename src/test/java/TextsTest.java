/** Promises 9 to 13: append, clear, fault, carryOut, why. */
public final class TextsTest {
    private static final int NO_FAULT = -4;

    private TextsTest() {
    }

    public static void main(String[] args) {
        append();
        appendRefuses();
        clear();
        faultOfWholeTexts();
        faultOfUnfinishedTexts();
        faultOfWrongTexts();
        faultAtTheLimit();
        carryOut();
        carryOutStops();
        carryOutRefuses();
        carryOutIsOneChange();
        why();
        whyStays();
        Check.end("TextsTest");
    }

    private static void append() {
        Grains x = new Grains();
        Check.due("append(33)", x.append(33), 1);
        Check.due("append(126)", x.append(126), 2);
        Check.due("append('g')", x.append('g'), 3);
        Check.due("count(18)", x.count(18), 3);
        Check.due("no change", x.count(19), 0);
    }

    private static void appendRefuses() {
        Grains x = new Grains();
        int[] wrong = {32, 127, -1, 0, 65536 + 'w', Integer.MAX_VALUE, Integer.MIN_VALUE};
        for (int code : wrong) {
            Check.due("append(" + code + ")", x.append(code), -1);
        }
        Check.due("count(18)", x.count(18), 0);
        for (int i = 1; i <= 60; i++) {
            Check.due("append the " + i + "th", x.append('w'), i);
        }
        Check.due("one too many", x.append('w'), -3);
        Check.due("wrong rather than too many", x.append(32), -1);
        Check.due("count(18)", x.count(18), 60);
        Check.due("clear()", x.clear(), 60);
        Check.due("again", x.append('w'), 1);
    }

    private static void clear() {
        Grains x = new Grains();
        Check.due("clear() of nothing", x.clear(), 0);
        Plates.type(x, "g1;w");
        Check.due("clear()", x.clear(), 4);
        Check.due("clear() again", x.clear(), 0);
        Check.due("count(18)", x.count(18), 0);
        Check.due("fault()", x.fault(), 0);
        Check.due("no change", x.count(19), 0);
        Plates.type(x, "w");
        Check.due("nothing of the old text", x.fault(), NO_FAULT);
    }

    private static void faultIs(String text, int fault) {
        Grains x = new Grains();
        Plates.type(x, text);
        Check.due("fault of " + text, x.fault(), fault);
        Check.due("pad of " + text, x.count(18), text.length());
    }

    private static void faultOfWholeTexts() {
        for (int i = 0; i <= 39; i++) {
            faultIs("g" + i, NO_FAULT);
        }
        for (int i = 0; i <= 120; i++) {
            faultIs("b" + i, NO_FAULT);
        }
        faultIs("w", NO_FAULT);
        faultIs("w;w;g0;b0;w;g39;b120", NO_FAULT);
    }

    private static void faultOfUnfinishedTexts() {
        faultIs("", 0);
        faultIs("g", 1);
        faultIs("b", 1);
        faultIs("w;", 2);
        faultIs("g12;", 4);
        faultIs("g12;b", 5);
        faultIs("w;g", 3);
    }

    private static void faultOfWrongTexts() {
        String[] texts = {
            ";", "0", "x", "G1", "gg", "g;", "g-1", "g/", "g:", "g00", "g05", "g40", "g50", "g99", "g390", "g100",
                    "g1w",
            "b;", "b00", "b01", "b121", "b122", "b130", "b200", "b1200", "b99b", "b999", "w0", "ww", "wg1", "w;;",
            "w;0", "g1;;", "g1,g2", "g1;w1", "g39;g40", "b12;b121;w"};
        int[] faults = {
            0, 0, 0, 0, 1, 1, 1, 1, 1, 2, 2, 2, 2, 2, 3, 3, 2,
            1, 2, 2, 3, 3, 3, 3, 4, 3, 3, 1, 1, 1, 2,
            2, 3, 2, 4, 6, 7};
        Check.due("texts", texts.length, faults.length);
        for (int i = 0; i < texts.length; i++) {
            faultIs(texts[i], faults[i]);
            faultIs(texts[i] + ";w", faults[i]);
        }
    }

    /** A text that has no room to be ended is unfinished, not wrong. */
    private static void faultAtTheLimit() {
        String texts = "g1;".repeat(20);
        faultIs(texts, 60);
        faultIs(texts.substring(0, 59), NO_FAULT);
        faultIs(texts.substring(0, 59) + "0", NO_FAULT);
        faultIs("w;".repeat(29) + "wg", 59);
        faultIs("w;".repeat(29) + ";g", 58);
        faultIs("w;".repeat(29) + "g1", NO_FAULT);
    }

    private static void carryOut() {
        Grains x = new Grains();
        x.begin(1);
        Plates.type(x, "g31;g32;g33;g19;b12;g32;w");
        Check.due("carryOut()", x.carryOut(), 7);
        Check.due("pad", x.count(18), 0);
        Check.due("grains", x.count(0), 12);
        Check.due("let go", x.count(7), 5);
        Check.due("gone", x.count(9), 4);
        Check.due("left", x.grain(11, 0), 99);
        Check.due("five lots", x.count(17), 1016);
        Check.due("why(0)", x.why(0), NO_FAULT);
        Plates.type(x, "g5");
        Check.due("a grain that is lost is no error", x.carryOut(), 1);
        Check.due("lost", x.count(8), 1);
        Plates.type(x, "g32;b12");
        Check.due("numbers are those of the moment", x.carryOut(), 2);
        Check.due("grains", x.count(0), 12);
        Grains y = new Grains();
        Plates.type(y, "w");
        Check.due("w alone", y.carryOut(), 1);
        Plates.type(y, "w;w;w;w;w;w;w;w;w;w;w;w;w;w;w;w;w;w;w;w;w;w;w;w;w;w;w;w;w;g5");
        Check.due("thirty deeds", y.carryOut(), 30);
        Check.due("history", y.count(19), 2);
    }

    private static void carryOutStops() {
        Grains x = new Grains();
        x.begin(1);
        Plates.type(x, "g31;g31;w");
        Check.due("a cell that has a grain", x.carryOut(), 1);
        Check.due("why(0)", x.why(0), -2);
        Check.due("why(1)", x.why(1), 1);
        Check.due("why(2)", x.why(2), 4);
        Check.due("the rest is not carried out", x.count(0), 12);
        Check.due("pad", x.count(18), 0);
        Plates.type(x, "w;w;b10");
        Check.due("a root", x.carryOut(), 2);
        Check.due("why(0)", x.why(0), -2);
        Check.due("why(1)", x.why(1), 2);
        Check.due("why(2)", x.why(2), 4);
        Plates.type(x, "b120;w");
        Check.due("no such grain", x.carryOut(), 0);
        Check.due("why(0)", x.why(0), -1);
        Check.due("why(1)", x.why(1), 0);
        Check.due("why(2)", x.why(2), 0);
        Plates.type(x, "b11");
        Check.due("the first number without a grain", x.carryOut(), 0);
        Check.due("why(0)", x.why(0), -1);
        Plates.type(x, "b0");
        Check.due("the first root", x.carryOut(), 0);
        Check.due("why(0)", x.why(0), -2);
    }

    private static void carryOutRefuses() {
        Grains x = new Grains();
        x.begin(1);
        Plates.type(x, "b99");
        x.carryOut();
        String before = Plates.everything(x);
        Check.due("an empty pad", x.carryOut(), -2);
        Check.holds("changes nothing", before.equals(Plates.everything(x)));
        Plates.type(x, "g31;");
        before = Plates.everything(x);
        Check.due("an unfinished pad", x.carryOut(), -2);
        Check.holds("changes nothing, also not the pad and why()", before.equals(Plates.everything(x)));
        x.append('x');
        before = Plates.everything(x);
        Check.due("a wrong pad", x.carryOut(), -2);
        Check.holds("changes nothing", before.equals(Plates.everything(x)));
        Check.due("why(0) is that of before", x.why(0), -1);
        Check.due("pad", x.count(18), 5);
    }

    private static void carryOutIsOneChange() {
        Grains x = new Grains();
        x.begin(1);
        String before = Plates.state(x);
        Plates.type(x, "g31;g32;g19;w");
        x.carryOut();
        Check.due("history", x.count(19), 2);
        Check.due("undo()", x.undo(), 1);
        Check.holds("all deeds are undone", before.equals(Plates.state(x)));
        Plates.type(x, "b0");
        Check.due("none carried out", x.carryOut(), 0);
        Check.due("is a change too", x.count(19), 2);
        Plates.type(x, "g1");
        Check.due("undo()", x.undo(), 1);
        Check.due("the pad is not undone", x.count(18), 2);
    }

    private static void why() {
        Grains x = new Grains();
        for (int what = 0; what <= 2; what++) {
            Check.due("why(" + what + ") at first", x.why(what), NO_FAULT);
        }
        Check.due("why(-1)", x.why(-1), -1);
        Check.due("why(3)", x.why(3), -1);
        Check.due("why(MAX)", x.why(Integer.MAX_VALUE), -1);
        Plates.type(x, "b7");
        x.carryOut();
        Check.due("why(0)", x.why(0), -1);
        Check.due("why(3)", x.why(3), -1);
        Plates.type(x, "w");
        x.carryOut();
        for (int what = 0; what <= 2; what++) {
            Check.due("why(" + what + ") behind a call that carried out all", x.why(what), NO_FAULT);
        }
    }

    private static void whyStays() {
        Grains x = new Grains();
        x.save();
        Plates.type(x, "w;g5;b0");
        x.carryOut();
        x.undo();
        whyIs(x, "undo()");
        x.restore();
        whyIs(x, "restore()");
        x.begin(2);
        whyIs(x, "begin()");
        x.breakOff(500);
        x.breakOff(1);
        whyIs(x, "errors of other calls");
        Plates.type(x, "w;");
        x.carryOut();
        whyIs(x, "carryOut() that returned an error");
    }

    private static void whyIs(Grains x, String behind) {
        Check.due("why(0) behind " + behind, x.why(0), -2);
        Check.due("why(1) behind " + behind, x.why(1), 2);
        Check.due("why(2) behind " + behind, x.why(2), 5);
    }
}
