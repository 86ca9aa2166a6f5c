import java.util.ArrayDeque;
import java.util.ArrayList;
import java.util.Deque;
import java.util.HashSet;
import java.util.List;
import java.util.Set;
import java.util.regex.Matcher;
import java.util.regex.Pattern;

/**
 * The document told a second time, with the Java library and in another way than the program: grains are objects
 * that know their holder, cells are pairs of numbers, texts are matched by patterns. It is slow and makes many
 * objects; it is there only to be compared with.
 */
final class Model {
    private static final Pattern BEGUN = Pattern.compile(
            "((g([1-3]?[0-9])|b([1-9]?[0-9]|1[01][0-9]|120)|w);)*(g([1-3]?[0-9])?|b([1-9]?[0-9]|1[01][0-9]|120)?|w)?");
    private static final Pattern WHOLE = Pattern.compile(
            "(g([1-3]?[0-9])|b([1-9]?[0-9]|1[01][0-9]|120)|w)(;(g([1-3]?[0-9])|b([1-9]?[0-9]|1[01][0-9]|120)|w))*");
    private static final Pattern DEED = Pattern.compile("([gbw])([0-9]*)");
    private static final int[] DOWN = {-1, 0, 1, 0};
    private static final int[] RIGHT = {0, 1, 0, -1};

    private static final class Grain {
        final int row;
        final int column;
        final Grain holder;
        final int steps;

        Grain(int row, int column, Grain holder, int steps) {
            this.row = row;
            this.column = column;
            this.holder = holder;
            this.steps = steps;
        }

        boolean isOn(Grain other) {
            return this == other || (holder != null && holder.isOn(other));
        }

        int depth() {
            return holder == null ? 0 : 1 + holder.depth();
        }

        Grain root() {
            return holder == null ? this : holder.root();
        }

        int ring() {
            return Math.max(Math.abs(row - 5), Math.abs(column - 5));
        }
    }

    private static final class Plate {
        List<Grain> grains = new ArrayList<>();
        int[] settings = {4, 60, 0, 2};
        int lot = 1;
        int released;
        int lost;
        int gone;
        int walked;

        Plate copy() {
            Plate copy = new Plate();
            copy.grains = new ArrayList<>(grains);
            copy.settings = settings.clone();
            copy.lot = lot;
            copy.released = released;
            copy.lost = lost;
            copy.gone = gone;
            copy.walked = walked;
            return copy;
        }

        Grain at(int row, int column) {
            for (Grain g : grains) {
                if (g.row == row && g.column == column) {
                    return g;
                }
            }
            return null;
        }

        int draw() {
            lot = (int) ((421L * lot + 1663L) % 10000L);
            return lot;
        }

        boolean isTip(Grain grain) {
            return heldBy(grain) == 0;
        }

        int heldBy(Grain grain) {
            return (int) grains.stream().filter(g -> g.holder == grain).count();
        }

        int reach() {
            return grains.stream().mapToInt(Grain::ring).max().orElse(0);
        }

        int deepest() {
            return grains.stream().mapToInt(Grain::depth).max().orElse(0);
        }

        Grain met(int rim) {
            int[] start = rimCell(rim);
            int row = start[0];
            int column = start[1];
            int direction = row == 0 ? 2 : row == 10 ? 0 : column == 10 ? 3 : 1;
            while (onPlate(row, column)) {
                Grain grain = at(row, column);
                if (grain != null) {
                    return grain;
                }
                row += DOWN[direction];
                column += RIGHT[direction];
            }
            return null;
        }

        int caught(Grain grain) {
            int caught = 0;
            for (int rim = 0; rim < 40; rim++) {
                if (met(rim) == grain) {
                    caught++;
                }
            }
            return caught;
        }

        void dropAll(Set<Grain> falling) {
            grains.removeIf(falling::contains);
            gone += falling.size();
        }

        Set<Grain> treeOf(Grain grain) {
            Set<Grain> tree = new HashSet<>();
            for (Grain g : grains) {
                if (g.isOn(grain)) {
                    tree.add(g);
                }
            }
            return tree;
        }
    }

    /** What one walk was: the plate it was on is changed by it. */
    private static final class Walked {
        int answer;
        int place;
        int draws;
    }

    private Plate plate = new Plate();
    private Plate snapshot = null;
    private final Deque<Plate> history = new ArrayDeque<>();
    private String pad = "";
    private int[] stop = null;

    Model() {
        plant(0);
    }

    private static boolean onPlate(int row, int column) {
        return row >= 0 && row <= 10 && column >= 0 && column <= 10;
    }

    /** Goes around the rim cell by cell, as the document tells it. */
    private static int[] rimCell(int rim) {
        int row = 0;
        int column = 0;
        int direction = 1;
        for (int i = 0; i < rim; i++) {
            if (!onPlate(row + DOWN[direction], column + RIGHT[direction])) {
                direction = (direction + 1) % 4;
            }
            row += DOWN[direction];
            column += RIGHT[direction];
        }
        return new int[] {row, column};
    }

    private int plant(int beginning) {
        plate.grains.clear();
        plate.released = 0;
        plate.lost = 0;
        plate.gone = 0;
        plate.walked = 0;
        for (int cell = 0; cell < 121; cell++) {
            Grain root = new Grain(cell / 11, cell % 11, null, 0);
            boolean wanted = beginning == 0 ? cell == 60 : beginning == 1 ? cell >= 110 : root.ring() == 2;
            if (wanted) {
                plate.grains.add(root);
            }
        }
        return plate.grains.size();
    }

    private void record() {
        history.addLast(plate.copy());
        if (history.size() == 5) {
            history.removeFirst();
        }
    }

    private static Walked walk(Plate plate, int rim) {
        Walked walked = new Walked();
        int row = rimCell(rim)[0];
        int column = rimCell(rim)[1];
        int steps = 0;
        plate.released++;
        while (true) {
            Grain holder = null;
            for (int direction = 3; direction >= 0; direction--) {
                Grain beside = plate.at(row + DOWN[direction], column + RIGHT[direction]);
                holder = beside != null ? beside : holder;
            }
            if (holder != null) {
                walked.draws++;
                if (plate.draw() % 4 < plate.settings[0]) {
                    plate.grains.add(new Grain(row, column, holder, steps));
                    walked.answer = 1000 + 11 * row + column;
                    break;
                }
            }
            if (steps == plate.settings[1]) {
                plate.lost++;
                walked.answer = steps;
                break;
            }
            walked.draws++;
            int v = plate.draw() % (4 + plate.settings[2]);
            int direction = v < 4 ? v : plate.settings[3];
            steps++;
            int nextRow = row + DOWN[direction];
            int nextColumn = column + RIGHT[direction];
            if (!onPlate(nextRow, nextColumn)) {
                plate.lost++;
                walked.answer = steps;
                break;
            }
            if (plate.at(nextRow, nextColumn) == null) {
                row = nextRow;
                column = nextColumn;
            }
        }
        plate.walked += steps;
        walked.place = 11 * row + column;
        return walked;
    }

    private boolean taken(int rim) {
        return plate.at(rimCell(rim)[0], rimCell(rim)[1]) != null;
    }

    private int goError(int rim) {
        return rim < 0 || rim > 39 ? -1 : taken(rim) ? -2 : 0;
    }

    private int breakError(int grain) {
        return !isGrain(grain) ? -1 : plate.grains.get(grain).holder == null ? -2 : 0;
    }

    private boolean isGrain(int grain) {
        return grain >= 0 && grain < plate.grains.size();
    }

    private int breakTree(int grain) {
        Set<Grain> tree = plate.treeOf(plate.grains.get(grain));
        plate.dropAll(tree);
        return tree.size();
    }

    private int washTips() {
        Set<Grain> tips = new HashSet<>();
        for (Grain g : plate.grains) {
            if (g.holder != null && plate.isTip(g)) {
                tips.add(g);
            }
        }
        plate.dropAll(tips);
        return tips.size();
    }

    private int number(Grain grain) {
        return grain == null ? -4 : plate.grains.indexOf(grain);
    }

    int begin(int beginning) {
        if (beginning < 0 || beginning > 2) {
            return -1;
        }
        record();
        return plant(beginning);
    }

    int lot(int x) {
        if (x < 0 || x > 9999) {
            return -1;
        }
        record();
        int before = plate.lot;
        plate.lot = x;
        return before;
    }

    int go(int rim) {
        if (goError(rim) != 0) {
            return goError(rim);
        }
        record();
        return walk(plate, rim).answer;
    }

    /** What go() would return if the wind, its way and the lot were these. */
    int wouldGo(int wind, int way, int rim, int lot) {
        if (goError(rim) != 0) {
            return goError(rim);
        }
        Plate then = plate.copy();
        then.settings[2] = wind;
        then.settings[3] = way;
        then.lot = lot;
        return walk(then, rim).answer;
    }

    int rain(int grains) {
        if (grains < 1 || grains > 20) {
            return -1;
        }
        record();
        int before = plate.grains.size();
        for (int i = 0; i < grains; i++) {
            int rim = plate.draw() % 40;
            if (taken(rim)) {
                plate.released++;
                plate.lost++;
            } else {
                walk(plate, rim);
            }
        }
        return plate.grains.size() - before;
    }

    int breakOff(int grain) {
        if (breakError(grain) != 0) {
            return breakError(grain);
        }
        record();
        return breakTree(grain);
    }

    int wash() {
        record();
        return washTips();
    }

    int set(int what, int value) {
        int[] least = {1, 10, 0, 0};
        int[] most = {4, 200, 4, 3};
        if (what < 0 || what > 3 || value < least[what] || value > most[what]) {
            return -1;
        }
        record();
        int before = plate.settings[what];
        plate.settings[what] = value;
        return before;
    }

    int append(int code) {
        if (code < 33 || code > 126) {
            return -1;
        }
        if (pad.length() == 60) {
            return -3;
        }
        pad += (char) code;
        return pad.length();
    }

    int clear() {
        int before = pad.length();
        pad = "";
        return before;
    }

    int fault() {
        if (WHOLE.matcher(pad).matches()) {
            return -4;
        }
        int right = 0;
        while (right < pad.length() && BEGUN.matcher(pad.substring(0, right + 1)).matches()) {
            right++;
        }
        return right;
    }

    int carryOut() {
        if (fault() != -4) {
            return -2;
        }
        record();
        stop = null;
        int carried = 0;
        Matcher deeds = DEED.matcher(pad);
        while (deeds.find() && stop == null) {
            int answer = deed(deeds.group(1), deeds.group(2));
            if (answer < 0) {
                stop = new int[] {answer, carried, deeds.start()};
            } else {
                carried++;
            }
        }
        pad = "";
        return carried;
    }

    private int deed(String letter, String digits) {
        if (letter.equals("w")) {
            return washTips();
        }
        int number = Integer.parseInt(digits);
        if (letter.equals("g")) {
            return goError(number) != 0 ? goError(number) : walk(plate, number).answer;
        }
        return breakError(number) != 0 ? breakError(number) : breakTree(number);
    }

    int why(int what) {
        if (what < 0 || what > 2) {
            return -1;
        }
        return stop == null ? -4 : stop[what];
    }

    int cell(int cell, int what) {
        if (cell < 0 || cell > 120 || what < 0 || what > 3) {
            return -1;
        }
        int row = cell / 11;
        int column = cell % 11;
        if (what == 0) {
            return number(plate.at(row, column));
        }
        if (what == 1) {
            return new Grain(row, column, null, 0).ring();
        }
        if (what == 2) {
            return around(row, column);
        }
        for (int rim = 0; rim < 40; rim++) {
            if (rimCell(rim)[0] == row && rimCell(rim)[1] == column) {
                return rim;
            }
        }
        return -4;
    }

    private int around(int row, int column) {
        int around = 0;
        for (Grain g : plate.grains) {
            if (Math.abs(g.row - row) + Math.abs(g.column - column) == 1) {
                around++;
            }
        }
        return around;
    }

    int grain(int grain, int what) {
        if (!isGrain(grain) || what < 0 || what > 8) {
            return -1;
        }
        Grain g = plate.grains.get(grain);
        switch (what) {
            case 0: return 11 * g.row + g.column;
            case 1: return number(g.holder);
            case 2: return g.depth();
            case 3: return plate.heldBy(g);
            case 4: return plate.treeOf(g).size();
            case 5: return plate.treeOf(g).stream().mapToInt(Grain::depth).max().orElse(0) - g.depth();
            case 6: return plate.caught(g);
            case 7: return number(g.root());
            default: return g.steps;
        }
    }

    int screens(int rim) {
        return rim < 0 || rim > 39 ? -1 : number(plate.met(rim));
    }

    int ring(int ring) {
        return ring < 0 || ring > 5 ? -1 : (int) plate.grains.stream().filter(g -> g.ring() == ring).count();
    }

    int apart(int one, int other) {
        if (!isGrain(one) || !isGrain(other)) {
            return -1;
        }
        List<Grain> way = new ArrayList<>();
        for (Grain g = plate.grains.get(one); g != null; g = g.holder) {
            way.add(g);
        }
        int holds = 0;
        for (Grain g = plate.grains.get(other); g != null; g = g.holder) {
            if (way.contains(g)) {
                return holds + way.indexOf(g);
            }
            holds++;
        }
        return -4;
    }

    int longest(int way) {
        if (way < 0 || way > 1) {
            return -1;
        }
        int longest = 0;
        for (int one = 0; one < plate.grains.size(); one++) {
            for (int other = 0; other < one; other++) {
                longest = Math.max(longest, apart(one, other));
            }
        }
        return longest;
    }

    int count(int what) {
        switch (what) {
            case 0: return plate.grains.size();
            case 1: return (int) plate.grains.stream().filter(g -> g.holder == null).count();
            case 2: return (int) plate.grains.stream().filter(plate::isTip).count();
            case 3: return (int) plate.grains.stream().filter(g -> plate.heldBy(g) > 1).count();
            case 4: return plate.deepest();
            case 5: return plate.reach();
            case 6: return freeBeside();
            case 7: return plate.released;
            case 8: return plate.lost;
            case 9: return plate.gone;
            case 10: return plate.walked;
            case 11: return plate.caught(bestCatcher());
            case 12: return number(bestCatcher());
            case 17: return plate.lot;
            case 18: return pad.length();
            case 19: return history.size();
            default: return what >= 13 && what <= 16 ? plate.settings[what - 13] : -1;
        }
    }

    private int freeBeside() {
        int free = 0;
        for (int cell = 0; cell < 121; cell++) {
            if (plate.at(cell / 11, cell % 11) == null && around(cell / 11, cell % 11) > 0) {
                free++;
            }
        }
        return free;
    }

    private Grain bestCatcher() {
        Grain best = plate.grains.get(0);
        for (Grain g : plate.grains) {
            best = plate.caught(g) > plate.caught(best) ? g : best;
        }
        return best;
    }

    double density() {
        int cells = 0;
        for (int cell = 0; cell < 121; cell++) {
            if (new Grain(cell / 11, cell % 11, null, 0).ring() <= plate.reach()) {
                cells++;
            }
        }
        return (double) plate.grains.size() / (double) cells;
    }

    int ifGone(int rim, int what) {
        if (rim < 0 || rim > 39 || what < 0 || what > 2) {
            return -1;
        }
        if (taken(rim)) {
            return -2;
        }
        Walked walked = walk(plate.copy(), rim);
        return what == 0 ? walked.answer : what == 1 ? walked.place : walked.draws;
    }

    int ifBroken(int grain, int what) {
        if (!isGrain(grain) || what < 0 || what > 3) {
            return -1;
        }
        if (plate.grains.get(grain).holder == null) {
            return -2;
        }
        Plate then = plate.copy();
        then.dropAll(then.treeOf(plate.grains.get(grain)));
        switch (what) {
            case 0: return then.grains.size();
            case 1: return then.reach();
            case 2: return then.deepest();
            default:
                int open = 0;
                for (int rim = 0; rim < 40; rim++) {
                    open += then.met(rim) == null ? 1 : 0;
                }
                return open;
        }
    }

    int undo() {
        if (history.isEmpty()) {
            return -2;
        }
        plate = history.removeLast();
        return history.size();
    }

    int save() {
        snapshot = plate.copy();
        return plate.grains.size();
    }

    int restore() {
        if (snapshot == null) {
            return -2;
        }
        record();
        plate = snapshot.copy();
        return plate.grains.size();
    }
}
