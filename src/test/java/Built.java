import java.util.Arrays;
import java.util.HashMap;
import java.util.Map;

/** Plates with grains at the cells that a test wants: the model tells which wind and lot bring a grain there. */
final class Built {
    private static final Map<String, Grains> BUILT = new HashMap<>();
    private static final int[] WINDS = {4, 3, 2};

    private final Grains plate = new Grains();
    private final Model model = new Model();

    private Built() {
    }

    /** Behind it STICK, PATIENCE, WIND and WAY have their first values, and the lot is 1. */
    static Grains plate(int beginning, int... cells) {
        return BUILT.computeIfAbsent(beginning + Arrays.toString(cells), key -> build(beginning, cells)).copy();
    }

    /** All 121 cells: the row 10 of roots, and then row by row from the left to the right, up to the row 0. */
    static Grains full() {
        int[] cells = new int[110];
        for (int i = 0; i < 110; i++) {
            cells[i] = 11 * (9 - i / 11) + i % 11;
        }
        return plate(1, cells);
    }

    private static Grains build(int beginning, int[] cells) {
        Built built = new Built();
        built.plate.begin(beginning);
        built.model.begin(beginning);
        for (int cell : cells) {
            built.put(cell);
        }
        built.set(RimGrains.WIND, 0);
        built.set(RimGrains.WAY, 2);
        built.lot(1);
        return built.plate;
    }

    private void put(int cell) {
        for (int wind : WINDS) {
            for (int tried = 0; tried < 64 * 160; tried++) {
                int way = tried % 4;
                int rim = tried / 4 % 40;
                int lot = tried / 160;
                if (model.wouldGo(wind, way, rim, lot) == 1000 + cell) {
                    set(RimGrains.WIND, wind);
                    set(RimGrains.WAY, way);
                    lot(lot);
                    model.go(rim);
                    Check.due("a grain led to the cell " + cell, plate.go(rim), 1000 + cell);
                    return;
                }
            }
        }
        throw new IllegalStateException("no grain comes to the cell " + cell);
    }

    private void set(int what, int value) {
        if (model.count(13 + what) != value) {
            model.set(what, value);
            plate.set(what, value);
        }
    }

    private void lot(int lot) {
        if (model.count(17) != lot) {
            model.lot(lot);
            plate.lot(lot);
        }
    }
}
