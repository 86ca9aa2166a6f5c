import java.util.ArrayList;
import java.util.List;
import java.util.function.ToIntFunction;

/**
 * A RimGrains as the document lets it be used: for at most 512 calls. When those are used up, a new one takes its
 * place, and all calls but looks are made again on it; so a test may look as often as it wants.
 */
final class Grains {
    static final int MOST_CALLS = 512;

    private final List<ToIntFunction<RimGrains>> kept = new ArrayList<>();
    private RimGrains object = new RimGrains();
    private int calls = 0;
    private int made = 0;

    Grains copy() {
        Grains copy = new Grains();
        for (ToIntFunction<RimGrains> call : kept) {
            copy.kept(call);
        }
        return copy;
    }

    /** How many calls the test has made. */
    int made() {
        return made;
    }

    /** Makes a call that is made again on each object that takes the place of this one. */
    int kept(ToIntFunction<RimGrains> call) {
        countCall();
        kept.add(call);
        return call.applyAsInt(object);
    }

    private int look(ToIntFunction<RimGrains> call) {
        countCall();
        return call.applyAsInt(object);
    }

    private void countCall() {
        if (calls >= MOST_CALLS) {
            takeNewObject();
        }
        calls++;
        made++;
    }

    private void takeNewObject() {
        if (kept.size() >= MOST_CALLS) {
            throw new IllegalStateException("a test makes more than 512 calls besides its looks");
        }
        object = new RimGrains();
        for (ToIntFunction<RimGrains> call : kept) {
            call.applyAsInt(object);
        }
        calls = kept.size();
    }

    int begin(int beginning) {
        return kept(x -> x.begin(beginning));
    }

    int lot(int lot) {
        return kept(x -> x.lot(lot));
    }

    int go(int rim) {
        return kept(x -> x.go(rim));
    }

    int rain(int grains) {
        return kept(x -> x.rain(grains));
    }

    int breakOff(int grain) {
        return kept(x -> x.breakOff(grain));
    }

    int wash() {
        return kept(RimGrains::wash);
    }

    int set(int what, int value) {
        return kept(x -> x.set(what, value));
    }

    int append(int code) {
        return kept(x -> x.append(code));
    }

    int clear() {
        return kept(RimGrains::clear);
    }

    int fault() {
        return look(RimGrains::fault);
    }

    int carryOut() {
        return kept(RimGrains::carryOut);
    }

    int why(int what) {
        return look(x -> x.why(what));
    }

    int cell(int cell, int what) {
        return look(x -> x.cell(cell, what));
    }

    int grain(int grain, int what) {
        return look(x -> x.grain(grain, what));
    }

    int screens(int rim) {
        return look(x -> x.screens(rim));
    }

    int ring(int ring) {
        return look(x -> x.ring(ring));
    }

    int apart(int one, int other) {
        return look(x -> x.apart(one, other));
    }

    int longest(int way) {
        return look(x -> x.longest(way));
    }

    int count(int what) {
        return look(x -> x.count(what));
    }

    double density() {
        countCall();
        return object.density();
    }

    int ifGone(int rim, int what) {
        return look(x -> x.ifGone(rim, what));
    }

    int ifBroken(int grain, int what) {
        return look(x -> x.ifBroken(grain, what));
    }

    int undo() {
        return kept(RimGrains::undo);
    }

    int save() {
        return kept(RimGrains::save);
    }

    int restore() {
        return kept(RimGrains::restore);
    }
}
