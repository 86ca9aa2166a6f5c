/**
 * Grains that stick at random and grow trees on a plate.
 *
 * <p>No call makes an object: all rows are made with the RimGrains and used again, as a long run of calls has
 * little room. A grain's holder always has the lesser number; many loops rest on that, none needs a recursion.
 */
public final class RimGrains {
    public static final int INVALID_ARGUMENT = -1;
    public static final int NOT_POSSIBLE = -2;
    public static final int LIMIT_REACHED = -3;
    public static final int NOT_FOUND = -4;
    public static final int STICK = 0, PATIENCE = 1, WIND = 2, WAY = 3;

    private static final int SIDE = 11;
    private static final int CELLS = SIDE * SIDE;
    private static final int MIDDLE_LINE = 5;
    private static final int RINGS = 6;
    private static final int RIM_CELLS = 40;
    private static final int DIRECTIONS = 4;
    private static final int SETTINGS = 4;
    private static final int LOTS = 10000;
    private static final int MOST_RAIN = 20;
    private static final int HISTORY_STATES = 4;
    private static final int PAD_SIGNS = 60;
    private static final int STUCK = 1000;

    /** No refusal: every error of the document is below 0. */
    private static final int FINE = 0;

    /** No such grain or cell: the same as NOT_FOUND, so that a look can answer it as it is. */
    private static final int NONE = NOT_FOUND;

    private final State now = new State();
    private final State snapshot = new State();
    private final State trial = new State();
    private final State[] history = new State[HISTORY_STATES];
    private final Walk walk = new Walk();
    private final Fall fall = new Fall();
    private final Trees trees = new Trees();
    private final Screens screening = new Screens();
    private final Pad pad = new Pad();
    private int states = 0;
    private boolean saved = false;
    private int stopError = FINE;
    private int stopDeed = 0;
    private int stopPlace = 0;

    public RimGrains() {
        for (int i = 0; i < history.length; i++) {
            history[i] = new State();
        }
        now.plant(0);
    }

    // ---- grains

    public int begin(int beginning) {
        if (beginning < 0 || beginning > 2) {
            return INVALID_ARGUMENT;
        }
        record();
        return now.plant(beginning);
    }

    public int lot(int x) {
        if (x < 0 || x >= LOTS) {
            return INVALID_ARGUMENT;
        }
        record();
        int before = now.lot;
        now.lot = x;
        return before;
    }

    public int go(int rim) {
        int refusal = now.refusalToGo(rim);
        if (refusal != FINE) {
            return refusal;
        }
        record();
        return letWalk(rim);
    }

    public int rain(int grains) {
        if (grains < 1 || grains > MOST_RAIN) {
            return INVALID_ARGUMENT;
        }
        record();
        int sticking = 0;
        for (int i = 0; i < grains; i++) {
            if (dropSticks()) {
                sticking++;
            }
        }
        return sticking;
    }

    public int breakOff(int grain) {
        int refusal = now.refusalToBreak(grain);
        if (refusal != FINE) {
            return refusal;
        }
        record();
        return fall.dropTree(now, grain);
    }

    public int wash() {
        record();
        return fall.dropTips(now);
    }

    public int set(int what, int value) {
        if (!isSettingValue(what, value)) {
            return INVALID_ARGUMENT;
        }
        record();
        return now.change(what, value);
    }

    // ---- texts

    public int append(int code) {
        if (code < 33 || code > 126) {
            return INVALID_ARGUMENT;
        }
        if (pad.length >= PAD_SIGNS) {
            return LIMIT_REACHED;
        }
        pad.write((char) code);
        return pad.length;
    }

    public int clear() {
        int before = pad.length;
        pad.wipe();
        return before;
    }

    public int fault() {
        return pad.firstWrong();
    }

    public int carryOut() {
        if (pad.firstWrong() != NONE) {
            return NOT_POSSIBLE;
        }
        record();
        stopError = FINE;
        int carried = 0;
        pad.startReading();
        while (carried < PAD_SIGNS && stopError == FINE && pad.readDeed()) {
            int answer = answerOfDeed(pad.letter, pad.number);
            if (answer < 0) {
                stopError = answer;
                stopDeed = carried;
                stopPlace = pad.place;
            } else {
                carried++;
            }
        }
        pad.wipe();
        return carried;
    }

    public int why(int what) {
        if (what < 0 || what > 2) {
            return INVALID_ARGUMENT;
        }
        if (stopError == FINE) {
            return NOT_FOUND;
        }
        switch (what) {
            case 0: return stopError;
            case 1: return stopDeed;
            default: return stopPlace;
        }
    }

    // ---- looks; nothing is changed

    public int cell(int cell, int what) {
        if (!Plate.isCell(cell) || what < 0 || what > 3) {
            return INVALID_ARGUMENT;
        }
        switch (what) {
            case 0: return now.grainAt(cell);
            case 1: return Plate.ringOf(cell);
            case 2: return now.grainsAround(cell);
            default: return Plate.rimOf(cell);
        }
    }

    public int grain(int grain, int what) {
        if (!now.isGrain(grain) || what < 0 || what > 8) {
            return INVALID_ARGUMENT;
        }
        trees.read(now);
        switch (what) {
            case 0: return now.cellOf(grain);
            case 1: return now.holderOf(grain);
            case 2: return trees.depths[grain];
            case 3: return trees.holding[grain];
            case 4: return trees.members[grain];
            case 5: return trees.highest[grain];
            case 6: return catchOf(grain);
            case 7: return trees.roots[grain];
            default: return now.stepsOf(grain);
        }
    }

    public int screens(int rim) {
        if (!Plate.isRim(rim)) {
            return INVALID_ARGUMENT;
        }
        return Screens.firstMet(now, rim);
    }

    public int ring(int ring) {
        if (ring < 0 || ring >= RINGS) {
            return INVALID_ARGUMENT;
        }
        int grains = 0;
        for (int i = 0; i < now.grains; i++) {
            if (Plate.ringOf(now.cellOf(i)) == ring) {
                grains++;
            }
        }
        return grains;
    }

    public int apart(int one, int other) {
        if (!now.isGrain(one) || !now.isGrain(other)) {
            return INVALID_ARGUMENT;
        }
        return now.holdsBetween(one, other);
    }

    public int longest(int way) {
        if (way < 0 || way > 1) {
            return INVALID_ARGUMENT;
        }
        if (way == 0) {
            return now.longestOfPairs();
        }
        trees.read(now);
        return trees.longestOfHeights();
    }

    public int count(int what) {
        if (what < 0 || what > 19) {
            return INVALID_ARGUMENT;
        }
        switch (what) {
            case 0: return now.grains;
            case 5: return now.reach();
            case 6: return now.freeCellsBeside();
            case 7: return now.released;
            case 8: return now.lost;
            case 9: return now.gone;
            case 10: return now.walked;
            case 11: return catchOf(bestCatcher());
            case 12: return bestCatcher();
            case 13:
            case 14:
            case 15:
            case 16: return now.setting(what - 13);
            case 17: return now.lot;
            case 18: return pad.length;
            case 19: return states;
            default: return countOfTrees(what);
        }
    }

    public double density() {
        int width = 2 * now.reach() + 1;
        return (double) now.grains / (width * width);
    }

    // ---- what would be; nothing is changed

    public int ifGone(int rim, int what) {
        if (what < 0 || what > 2) {
            return INVALID_ARGUMENT;
        }
        int refusal = now.refusalToGo(rim);
        if (refusal != FINE) {
            return refusal;
        }
        walk.walkFrom(now, Plate.cellOfRim(rim));
        switch (what) {
            case 0: return walk.answer();
            case 1: return walk.place;
            default: return walk.draws;
        }
    }

    public int ifBroken(int grain, int what) {
        if (what < 0 || what > 3) {
            return INVALID_ARGUMENT;
        }
        int refusal = now.refusalToBreak(grain);
        if (refusal != FINE) {
            return refusal;
        }
        trial.takeOver(now);
        fall.dropTree(trial, grain);
        switch (what) {
            case 0: return trial.grains;
            case 1: return trial.reach();
            case 2:
                trees.read(trial);
                return trees.deepest();
            default:
                screening.read(trial);
                return screening.open;
        }
    }

    // ---- history, snapshot

    public int undo() {
        if (states < 1) {
            return NOT_POSSIBLE;
        }
        states--;
        now.takeOver(history[states]);
        return states;
    }

    public int save() {
        snapshot.takeOver(now);
        saved = true;
        return now.grains;
    }

    public int restore() {
        if (!saved) {
            return NOT_POSSIBLE;
        }
        record();
        now.takeOver(snapshot);
        return now.grains;
    }

    // ---- inside

    /** Each change calls this once, behind its last refusal and before it changes anything. */
    private void record() {
        if (states >= history.length) {
            dropOldest();
        }
        history[states].takeOver(now);
        states++;
    }

    private void dropOldest() {
        State oldest = history[0];
        for (int i = 1; i < history.length; i++) {
            history[i - 1] = history[i];
        }
        history[history.length - 1] = oldest;
        states = history.length - 1;
    }

    private int letWalk(int rim) {
        walk.walkFrom(now, Plate.cellOfRim(rim));
        now.settle(walk);
        return walk.answer();
    }

    private boolean dropSticks() {
        now.lot = nextLot(now.lot);
        int rim = now.lot % RIM_CELLS;
        if (now.refusalToGo(rim) != FINE) {
            now.loseAtOnce();
            return false;
        }
        letWalk(rim);
        return walk.sticks();
    }

    private int answerOfDeed(char letter, int number) {
        if (letter == 'w') {
            return fall.dropTips(now);
        }
        int refusal = letter == 'g' ? now.refusalToGo(number) : now.refusalToBreak(number);
        if (refusal != FINE) {
            return refusal;
        }
        return letter == 'g' ? letWalk(number) : fall.dropTree(now, number);
    }

    private int catchOf(int grain) {
        screening.read(now);
        return screening.catches[grain];
    }

    private int bestCatcher() {
        screening.read(now);
        return screening.bestGrain();
    }

    private int countOfTrees(int what) {
        trees.read(now);
        switch (what) {
            case 1: return trees.rootGrains();
            case 2: return trees.grainsHeldBy(0, 0);
            case 3: return trees.grainsHeldBy(2, DIRECTIONS);
            default: return trees.deepest();
        }
    }

    private static boolean isSettingValue(int what, int value) {
        switch (what) {
            case STICK: return value >= 1 && value <= 4;
            case PATIENCE: return value >= 10 && value <= 200;
            case WIND: return value >= 0 && value <= 4;
            case WAY: return value >= 0 && value < DIRECTIONS;
            default: return false;
        }
    }

    private static int nextLot(int lot) {
        return (421 * lot + 1663) % LOTS;
    }

    /** Where cells lie: nothing here knows of grains. */
    private static final class Plate {
        static boolean isCell(int cell) {
            return cell >= 0 && cell < CELLS;
        }

        static boolean isRim(int rim) {
            return rim >= 0 && rim < RIM_CELLS;
        }

        static int neighbour(int cell, int direction) {
            if (cell < 0 || cell >= CELLS) {
                return NONE;
            }
            int row = cell / SIDE;
            int column = cell % SIDE;
            switch (direction) {
                case 0: return row > 0 ? cell - SIDE : NONE;
                case 1: return column < SIDE - 1 ? cell + 1 : NONE;
                case 2: return row < SIDE - 1 ? cell + SIDE : NONE;
                case 3: return column > 0 ? cell - 1 : NONE;
                default: return NONE;
            }
        }

        static int ringOf(int cell) {
            return Math.max(Math.abs(cell / SIDE - MIDDLE_LINE), Math.abs(cell % SIDE - MIDDLE_LINE));
        }

        static int cellOfRim(int rim) {
            if (rim <= 10) {
                return rim;
            }
            if (rim <= 20) {
                return SIDE * (rim - 10) + SIDE - 1;
            }
            if (rim <= 30) {
                return SIDE * (SIDE - 1) + 30 - rim;
            }
            return SIDE * (RIM_CELLS - rim);
        }

        static int rimOf(int cell) {
            int row = cell / SIDE;
            int column = cell % SIDE;
            if (row == 0) {
                return column;
            }
            if (column == SIDE - 1) {
                return 10 + row;
            }
            if (row == SIDE - 1) {
                return 30 - column;
            }
            return column == 0 ? RIM_CELLS - row : NONE;
        }

        /** The corner 20 looks up, not to the left, as corners go by their row. */
        static int directionInward(int rim) {
            if (rim <= 10) {
                return 2;
            }
            if (rim <= 19) {
                return 3;
            }
            return rim <= 30 ? 0 : 1;
        }
    }

    /** Everything that a change may change and that is undone, saved and restored. */
    private static final class State {
        private final int[] cells = new int[CELLS];
        private final int[] holders = new int[CELLS];
        private final int[] steps = new int[CELLS];
        private final int[] grainsByCell = new int[CELLS];
        private final int[] settings = {4, 60, 0, 2};
        private int grains = 0;
        private int lot = 1;
        private int released = 0;
        private int lost = 0;
        private int gone = 0;
        private int walked = 0;

        void takeOver(State other) {
            System.arraycopy(other.cells, 0, cells, 0, CELLS);
            System.arraycopy(other.holders, 0, holders, 0, CELLS);
            System.arraycopy(other.steps, 0, steps, 0, CELLS);
            System.arraycopy(other.grainsByCell, 0, grainsByCell, 0, CELLS);
            System.arraycopy(other.settings, 0, settings, 0, SETTINGS);
            grains = other.grains;
            lot = other.lot;
            released = other.released;
            lost = other.lost;
            gone = other.gone;
            walked = other.walked;
        }

        int plant(int beginning) {
            grains = 0;
            released = 0;
            lost = 0;
            gone = 0;
            walked = 0;
            for (int cell = 0; cell < CELLS; cell++) {
                mark(cell, NONE);
            }
            for (int cell = 0; cell < CELLS; cell++) {
                if (isRootCell(beginning, cell)) {
                    add(cell, NONE, 0);
                }
            }
            return grains;
        }

        private static boolean isRootCell(int beginning, int cell) {
            switch (beginning) {
                case 0: return Plate.ringOf(cell) == 0;
                case 1: return cell / SIDE == SIDE - 1;
                default: return Plate.ringOf(cell) == 2;
            }
        }

        private void add(int cell, int holder, int walkSteps) {
            if (grains >= CELLS || !Plate.isCell(cell)) {
                return;
            }
            cells[grains] = cell;
            holders[grains] = holder;
            steps[grains] = walkSteps;
            mark(cell, grains);
            grains++;
        }

        private void mark(int cell, int grain) {
            if (Plate.isCell(cell)) {
                grainsByCell[cell] = grain;
            }
        }

        int change(int what, int value) {
            int before = setting(what);
            if (what >= 0 && what < SETTINGS) {
                settings[what] = value;
            }
            return before;
        }

        void settle(Walk walk) {
            lot = walk.lot;
            released++;
            walked += walk.steps;
            if (walk.sticks()) {
                add(walk.place, walk.holder, walk.steps);
            } else {
                lost++;
            }
        }

        void loseAtOnce() {
            released++;
            lost++;
        }

        /** The ones that stay move down in the very rows that are read: never behind the one that is read. */
        int drop(boolean[] falling, int[] newNumbers) {
            int kept = 0;
            for (int i = 0; i < grains; i++) {
                int cell = cells[i];
                if (falling[i]) {
                    newNumbers[i] = NONE;
                    mark(cell, NONE);
                } else {
                    int holder = holders[i];
                    newNumbers[i] = kept;
                    cells[kept] = cell;
                    holders[kept] = isGrain(holder) ? newNumbers[holder] : NONE;
                    steps[kept] = steps[i];
                    mark(cell, kept);
                    kept++;
                }
            }
            int dropped = grains - kept;
            grains = kept;
            gone += dropped;
            return dropped;
        }

        int refusalToGo(int rim) {
            if (!Plate.isRim(rim)) {
                return INVALID_ARGUMENT;
            }
            return grainAt(Plate.cellOfRim(rim)) == NONE ? FINE : NOT_POSSIBLE;
        }

        int refusalToBreak(int grain) {
            if (!isGrain(grain)) {
                return INVALID_ARGUMENT;
            }
            return holderOf(grain) == NONE ? NOT_POSSIBLE : FINE;
        }

        boolean isGrain(int grain) {
            return grain >= 0 && grain < grains;
        }

        int cellOf(int grain) {
            return isGrain(grain) ? cells[grain] : NONE;
        }

        int holderOf(int grain) {
            return isGrain(grain) ? holders[grain] : NONE;
        }

        int stepsOf(int grain) {
            return isGrain(grain) ? steps[grain] : NONE;
        }

        int grainAt(int cell) {
            return cell >= 0 && cell < CELLS ? grainsByCell[cell] : NONE;
        }

        int setting(int what) {
            return what >= 0 && what < SETTINGS ? settings[what] : 0;
        }

        int firstGrainBeside(int cell) {
            for (int direction = 0; direction < DIRECTIONS; direction++) {
                int grain = grainAt(Plate.neighbour(cell, direction));
                if (grain != NONE) {
                    return grain;
                }
            }
            return NONE;
        }

        int grainsAround(int cell) {
            int around = 0;
            for (int direction = 0; direction < DIRECTIONS; direction++) {
                if (grainAt(Plate.neighbour(cell, direction)) != NONE) {
                    around++;
                }
            }
            return around;
        }

        int freeCellsBeside() {
            int free = 0;
            for (int cell = 0; cell < CELLS; cell++) {
                if (grainAt(cell) == NONE && firstGrainBeside(cell) != NONE) {
                    free++;
                }
            }
            return free;
        }

        int reach() {
            int reach = 0;
            for (int i = 0; i < grains; i++) {
                reach = Math.max(reach, Plate.ringOf(cells[i]));
            }
            return reach;
        }

        /** A holder has the lesser number, so the greater of two grains never lies on the other's way down. */
        int holdsBetween(int one, int other) {
            int low = one;
            int high = other;
            for (int holds = 0; holds < CELLS; holds++) {
                if (low == high) {
                    return holds;
                }
                int greater = Math.max(low, high);
                low = Math.min(low, high);
                high = holderOf(greater);
                if (high == NONE) {
                    return NONE;
                }
            }
            return NONE;
        }

        int longestOfPairs() {
            int longest = 0;
            for (int one = 0; one < grains; one++) {
                for (int other = one + 1; other < grains; other++) {
                    longest = Math.max(longest, holdsBetween(one, other));
                }
            }
            return longest;
        }
    }

    /** One grain on its way: the state is only read, so that a walk can be tried. */
    private static final class Walk {
        private int place = 0;
        private int steps = 0;
        private int draws = 0;
        private int lot = 0;
        private int holder = NONE;

        void walkFrom(State state, int start) {
            place = start;
            steps = 0;
            draws = 0;
            lot = state.lot;
            holder = NONE;
            int patience = state.setting(PATIENCE);
            boolean walking = true;
            for (int turn = 0; turn <= patience && walking; turn++) {
                walking = !catchesHold(state) && steps < patience && makesStep(state);
            }
        }

        private boolean catchesHold(State state) {
            int near = state.firstGrainBeside(place);
            if (near == NONE || draw() % 4 >= state.setting(STICK)) {
                return false;
            }
            holder = near;
            return true;
        }

        /** Answers false if the step leads off the plate. */
        private boolean makesStep(State state) {
            int v = draw() % (DIRECTIONS + state.setting(WIND));
            int next = Plate.neighbour(place, v < DIRECTIONS ? v : state.setting(WAY));
            steps++;
            if (next == NONE) {
                return false;
            }
            if (state.grainAt(next) == NONE) {
                place = next;
            }
            return true;
        }

        private int draw() {
            lot = nextLot(lot);
            draws++;
            return lot;
        }

        boolean sticks() {
            return holder != NONE;
        }

        int answer() {
            return sticks() ? STUCK + place : steps;
        }
    }

    /** Takes grains off a state; keeps the rows that this needs. */
    private static final class Fall {
        private final boolean[] falling = new boolean[CELLS];
        private final int[] newNumbers = new int[CELLS];

        int dropTree(State state, int grain) {
            for (int i = 0; i < state.grains; i++) {
                int holder = state.holderOf(i);
                falling[i] = i == grain || (state.isGrain(holder) && falling[holder]);
            }
            return state.drop(falling, newNumbers);
        }

        int dropTips(State state) {
            for (int i = 0; i < state.grains; i++) {
                int holder = state.holderOf(i);
                falling[i] = state.isGrain(holder);
                if (state.isGrain(holder)) {
                    falling[holder] = false;
                }
            }
            return state.drop(falling, newNumbers);
        }
    }

    /** What the holds of a state tell about each grain, by one way up the numbers and one down. */
    private static final class Trees {
        private final int[] depths = new int[CELLS];
        private final int[] roots = new int[CELLS];
        private final int[] holding = new int[CELLS];
        private final int[] members = new int[CELLS];
        private final int[] highest = new int[CELLS];
        private final int[] second = new int[CELLS];
        private int grains = 0;

        void read(State state) {
            grains = state.grains;
            for (int i = 0; i < grains; i++) {
                readFromHolder(i, state.holderOf(i));
            }
            for (int i = grains - 1; i >= 0; i--) {
                int holder = state.holderOf(i);
                if (isGrain(holder)) {
                    addToHolder(i, holder);
                }
            }
        }

        private boolean isGrain(int number) {
            return number >= 0 && number < grains;
        }

        private void readFromHolder(int grain, int holder) {
            depths[grain] = isGrain(holder) ? depths[holder] + 1 : 0;
            roots[grain] = isGrain(holder) ? roots[holder] : grain;
            holding[grain] = 0;
            members[grain] = 1;
            highest[grain] = 0;
            second[grain] = 0;
        }

        private void addToHolder(int grain, int holder) {
            holding[holder]++;
            members[holder] += members[grain];
            int height = highest[grain] + 1;
            if (height > highest[holder]) {
                second[holder] = highest[holder];
                highest[holder] = height;
            } else if (height > second[holder]) {
                second[holder] = height;
            }
        }

        int rootGrains() {
            int found = 0;
            for (int i = 0; i < grains; i++) {
                if (roots[i] == i) {
                    found++;
                }
            }
            return found;
        }

        int grainsHeldBy(int least, int most) {
            int found = 0;
            for (int i = 0; i < grains; i++) {
                if (holding[i] >= least && holding[i] <= most) {
                    found++;
                }
            }
            return found;
        }

        int deepest() {
            int deepest = 0;
            for (int i = 0; i < grains; i++) {
                deepest = Math.max(deepest, depths[i]);
            }
            return deepest;
        }

        int longestOfHeights() {
            int longest = 0;
            for (int i = 0; i < grains; i++) {
                longest = Math.max(longest, highest[i] + second[i]);
            }
            return longest;
        }
    }

    /** Who screens the rim of a state. */
    private static final class Screens {
        private final int[] catches = new int[CELLS];
        private int grains = 0;
        private int open = 0;

        void read(State state) {
            grains = state.grains;
            open = 0;
            for (int i = 0; i < grains; i++) {
                catches[i] = 0;
            }
            for (int rim = 0; rim < RIM_CELLS; rim++) {
                int grain = firstMet(state, rim);
                if (state.isGrain(grain)) {
                    catches[grain]++;
                } else {
                    open++;
                }
            }
        }

        int bestGrain() {
            int best = 0;
            for (int i = 1; i < grains; i++) {
                if (catches[i] > catches[best]) {
                    best = i;
                }
            }
            return best;
        }

        static int firstMet(State state, int rim) {
            int cell = Plate.cellOfRim(rim);
            int direction = Plate.directionInward(rim);
            for (int i = 0; i < SIDE; i++) {
                int grain = state.grainAt(cell);
                if (grain != NONE) {
                    return grain;
                }
                cell = Plate.neighbour(cell, direction);
            }
            return NONE;
        }
    }

    /** A text of deeds; deeds are read from it only when it has no fault. */
    private static final class Pad {
        private static final char BETWEEN = ';';
        private static final char NO_LETTER = ' ';
        private static final int NO_NUMBER = -1;
        private static final int WRONG = -2;

        private final char[] signs = new char[PAD_SIGNS];
        private int length = 0;
        private int next = 0;
        private int place = 0;
        private char letter = NO_LETTER;
        private int number = NO_NUMBER;

        void write(char sign) {
            if (length < signs.length) {
                signs[length] = sign;
                length++;
            }
        }

        void wipe() {
            length = 0;
        }

        int firstWrong() {
            char open = NO_LETTER;
            int value = NO_NUMBER;
            for (int i = 0; i < length; i++) {
                char sign = signs[i];
                if (open == NO_LETTER) {
                    if (!isLetter(sign)) {
                        return i;
                    }
                    open = sign;
                    value = NO_NUMBER;
                } else if (sign == BETWEEN) {
                    if (!isWhole(open, value)) {
                        return i;
                    }
                    open = NO_LETTER;
                } else {
                    value = withDigit(open, value, sign);
                    if (value == WRONG) {
                        return i;
                    }
                }
            }
            return isWhole(open, value) ? NONE : length;
        }

        private static boolean isLetter(char sign) {
            return sign == 'g' || sign == 'b' || sign == 'w';
        }

        private static boolean isWhole(char letter, int value) {
            return letter == 'w' || (letter != NO_LETTER && value != NO_NUMBER);
        }

        private static int withDigit(char letter, int value, char sign) {
            if (letter == 'w' || sign < '0' || sign > '9' || value == 0) {
                return WRONG;
            }
            int digit = sign - '0';
            int longer = value == NO_NUMBER ? digit : 10 * value + digit;
            int most = letter == 'g' ? RIM_CELLS - 1 : CELLS - 1;
            return longer <= most ? longer : WRONG;
        }

        void startReading() {
            next = 0;
        }

        boolean readDeed() {
            if (next >= length) {
                return false;
            }
            place = next;
            letter = signs[next];
            number = 0;
            next++;
            while (next < length && signs[next] != BETWEEN) {
                number = 10 * number + signs[next] - '0';
                next++;
            }
            next++;
            return true;
        }
    }
}
