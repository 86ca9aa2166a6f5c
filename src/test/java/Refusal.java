import java.util.function.Supplier;
import java.util.function.ToIntFunction;

/** Compares a plate with its twin, on which a call was not made, by everything that can ever be told of both. */
final class Refusal {
    private Refusal() {
    }

    static void due(String call, Supplier<Grains> plate, ToIntFunction<RimGrains> refused, int error) {
        Grains x = plate.get();
        Check.due(call, x.kept(refused), error);
        Check.holds(call + " changes nothing", told(x).equals(told(plate.get())));
    }

    /** For a call that may answer whatever it wants, if only it changes nothing. */
    static void nothingChanges(String call, Supplier<Grains> plate, ToIntFunction<RimGrains> look) {
        Grains x = plate.get();
        x.kept(look);
        Check.holds(call + " changes nothing", told(x).equals(told(plate.get())));
    }

    /** Uses the plate up: its history, its snapshot, and its pad are told by what they lead to. */
    private static String told(Grains x) {
        StringBuilder all = new StringBuilder(Plates.everything(x));
        for (int i = 0; i < 5; i++) {
            all.append("|undo ").append(x.undo()).append(Plates.state(x));
        }
        all.append("|restore ").append(x.restore()).append(Plates.state(x));
        if (x.fault() == x.count(18)) {
            all.append("|append ").append(x.append('w'));
        }
        all.append("|carryOut ").append(x.carryOut()).append(Plates.everything(x));
        return all.toString();
    }
}
