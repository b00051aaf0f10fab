import java.util.Arrays;

/** One picture sent in two halves; ../shared/DOC.md says what each call must answer. */
public final class TwoHalves {
    public static final int UNKNOWN = -1, BAD = -2, LATE = -3, FULL = -4, NONE = -9;

    private static final int LINES = 4;
    private static final int DOTS = 4;
    private static final int PACKS = 4;
    private static final int SETS = 1 << PACKS;
    private static final int SHIFTS = 4;
    private static final int HALVES = 2;
    private static final int MOST_SHADES = 20;
    private static final int MOST_SIDE = 6;
    private static final int MOST_LETTERS = 70;
    private static final int MOST_ACTS = 14;
    private static final int MOST_SEEN = 6;
    private static final int SLOTS = 2;
    private static final int MOST_DOINGS = 4;
    private static final int MOST_DRAWN = 20;
    private static final int MOST_MISS_ASKED = 9999;
    private static final int TENTHS = 10;
    private static final int ALL_TENTHS = 10000;
    private static final int ORDERS = 24;

    /** By how many packs are lost, a given one among them: in how many orders it comes next. */
    private static final int[] ORDERS_BY_LOST = {0, 6, 2, 2, 6};

    /** By how many doings are told: the least number that is too great to tell them. */
    private static final long[] DOINGS_END = {1L, 1000L, 1000000L, 1000000000L, 1000000000000L};

    private final Text text = new Text();
    private final State now = new State();
    /** Where a text is read, or doings are tried, so that what is asked changes nothing. */
    private final State trial = new State();
    private final Acts acts = new Acts();
    private final Slots slots = new Slots();
    private final Seen seen = new Seen();
    private final Guesses guesses = new Guesses();
    private final Outcome outcome = new Outcome();
    /** MISS by each set of packs that could be lost. */
    private final int[] misses = new int[SETS];
    private long theSeed;

    public TwoHalves() {
    }

    // ---- the map

    public int write(int letter) {
        if (letter < 0 || letter > 255) {
            return BAD;
        }
        return text.add(letter) ? text.length : FULL;
    }

    public int wipe() {
        int was = text.length;
        text.length = 0;
        return was;
    }

    public int fault() {
        return text.readInto(trial);
    }

    public int map() {
        if (text.readInto(trial) != NONE) {
            return LATE;
        }
        now.copy(trial);
        acts.forgetAll();
        slots.forgetAll();
        return now.shades;
    }

    public int about(int what) {
        switch (what) {
            case 0: return now.rows;
            case 1: return now.columns;
            case 2: return now.shades;
            case 3: return now.shift;
            case 4: return now.lost;
            case 5: return blankNow();
            case 6: return outcome.missBy(now, now.shift, now.lost);
            case 7: return sideOf(0);
            case 8: return sideOf(1);
            case 9: return bestChange();
            case 10: return bestShift();
            case 11: return band();
            case 12: return acts.size;
            case 13: return seen.size;
            case 14: return text.length;
            default: return BAD;
        }
    }

    public int shade(int shade, int what) {
        if (!now.hasShade(shade)) {
            return UNKNOWN;
        }
        switch (what) {
            case 0: return now.rowOf[shade];
            case 1: return now.columnOf[shade];
            case 2: return now.timesPainted(shade);
            default: return BAD;
        }
    }

    public int cell(int row, int column) {
        if (!now.hasCell(row, column)) {
            return UNKNOWN;
        }
        return now.shadeIn(row, column);
    }

    public int guess(int half, int number) {
        if (half < 0 || half >= HALVES) {
            return BAD;
        }
        if (number < 0 || number >= now.numbersOf(half)) {
            return UNKNOWN;
        }
        guesses.take(now);
        return guesses.of(half, number);
    }

    public int dot(int line, int dot, boolean out) {
        if (!isDot(line, dot)) {
            return UNKNOWN;
        }
        if (!out) {
            return now.dots[line * DOTS + dot];
        }
        outcome.send(now, now.shift, now.lost);
        return outcome.dots[line * DOTS + dot];
    }

    // ---- acts

    public int change(int a, int b) {
        if (!now.hasShade(a) || !now.hasShade(b)) {
            return UNKNOWN;
        }
        if (a == b) {
            return LATE;
        }
        acts.remember(now);
        now.swap(a, b);
        return bothSides(now);
    }

    public int move(int shade, int row, int column) {
        if (!now.hasShade(shade) || !now.hasCell(row, column)) {
            return UNKNOWN;
        }
        if (now.shadeIn(row, column) != NONE) {
            return LATE;
        }
        acts.remember(now);
        now.put(shade, row, column);
        return bothSides(now);
    }

    public int lay(int b) {
        if (b < 0 || b >= MOST_SIDE) {
            return BAD;
        }
        if (now.cellsWithin(b) < now.shades) {
            return LATE;
        }
        acts.remember(now);
        now.layWithin(b);
        return bothSides(now);
    }

    public int paint(int line, int dot, int shade) {
        if (!isDot(line, dot) || !now.hasShade(shade)) {
            return UNKNOWN;
        }
        acts.remember(now);
        int was = now.dots[line * DOTS + dot];
        now.dots[line * DOTS + dot] = shade;
        return was;
    }

    public int shift(int v) {
        if (!isShift(v)) {
            return BAD;
        }
        acts.remember(now);
        int was = now.shift;
        now.shift = v;
        return was;
    }

    public int lose(int pack) {
        if (!isPack(pack)) {
            return UNKNOWN;
        }
        acts.remember(now);
        now.loseOrFind(pack);
        return now.lost >> pack & 1;
    }

    public int undo() {
        return acts.takeBackInto(now) ? acts.size : LATE;
    }

    // ---- asked

    public int miss(int set) {
        if (set < 0 || set >= SETS) {
            return BAD;
        }
        return outcome.missBy(now, now.shift, set);
    }

    public int judge(int n, long row) {
        if (n < 1 || n > MOST_DOINGS || row < 0 || row >= DOINGS_END[n]) {
            return BAD;
        }
        trial.copy(now);
        for (int place = 0; place < n; place++) {
            int doing = (int) (row / DOINGS_END[n - 1 - place] % 1000);
            if (!goesWell(doing / 100, doing / 10 % 10, doing % 10)) {
                return place;
            }
        }
        return NONE;
    }

    // ---- seen

    public int see(int line, int dot, int v) {
        if (!isDot(line, dot)) {
            return UNKNOWN;
        }
        if (v < 0 || v >= MOST_SHADES) {
            return BAD;
        }
        return seen.add(line * DOTS + dot, v) ? seen.size : FULL;
    }

    public int unsee() {
        int was = seen.size;
        seen.size = 0;
        return was;
    }

    public int which() {
        int sets = 0;
        for (int set = 0; set < SETS; set++) {
            outcome.send(now, now.shift, set);
            if (seen.isSo(outcome)) {
                sets |= 1 << set;
            }
        }
        return sets;
    }

    // ---- shares, chances

    public int share(int pack, boolean upper) {
        if (!isPack(pack)) {
            return UNKNOWN;
        }
        tellMisses();
        int bit = 1 << pack;
        int sum = 0;
        for (int lost = 0; lost < SETS; lost++) {
            if ((lost & bit) != 0) {
                int orders = ORDERS_BY_LOST[Integer.bitCount(lost)];
                sum += orders * (misses[lost] - misses[lost ^ bit]);
            }
        }
        return fraction(sum, ORDERS, upper);
    }

    public int chance(int m, int x, boolean upper) {
        if (m < 0 || m > MOST_MISS_ASKED || !isTenths(x)) {
            return BAD;
        }
        tellMisses();
        int sum = 0;
        for (int set = 0; set < SETS; set++) {
            if (misses[set] <= m) {
                sum += likelihood(set, x);
            }
        }
        return fraction(sum, ALL_TENTHS, upper);
    }

    public int mean(int x, boolean upper) {
        if (!isTenths(x)) {
            return BAD;
        }
        tellMisses();
        int sum = 0;
        for (int set = 0; set < SETS; set++) {
            sum += likelihood(set, x) * misses[set];
        }
        return fraction(sum, ALL_TENTHS, upper);
    }

    public long seed(long v) {
        long was = theSeed;
        theSeed = v;
        return was;
    }

    public int drawn(int m) {
        if (m < 1 || m > MOST_DRAWN) {
            return BAD;
        }
        trial.copy(now);
        int sum = 0;
        for (int i = 0; i < m; i++) {
            theSeed = theSeed * 6364136223846793005L + 1442695040888963407L;
            trial.paintBy((int) (theSeed >>> 33));
            sum += outcome.missBy(trial, trial.shift, trial.lost);
        }
        return sum;
    }

    // ---- slots

    public int keep(int slot) {
        if (!isSlot(slot)) {
            return UNKNOWN;
        }
        slots.put(slot, now);
        return now.lost;
    }

    public int again(int slot) {
        if (!isSlot(slot)) {
            return UNKNOWN;
        }
        if (!slots.takeInto(slot, now)) {
            return LATE;
        }
        acts.forgetAll();
        return now.lost;
    }

    // ---- what arguments can be

    private static boolean isDot(int line, int dot) {
        return line >= 0 && line < LINES && dot >= 0 && dot < DOTS;
    }

    private static boolean isPack(int pack) {
        return pack >= 0 && pack < PACKS;
    }

    private static boolean isShift(int v) {
        return v >= 0 && v < SHIFTS;
    }

    private static boolean isTenths(int x) {
        return x >= 0 && x <= TENTHS;
    }

    private static boolean isSlot(int slot) {
        return slot >= 0 && slot < SLOTS;
    }

    // ---- what is asked of the table and of packs

    private int blankNow() {
        outcome.send(now, now.shift, now.lost);
        return outcome.blank;
    }

    private int sideOf(int half) {
        guesses.take(now);
        return guesses.side(now, half);
    }

    private int bothSides(State state) {
        guesses.take(state);
        return guesses.side(state, 0) + guesses.side(state, 1);
    }

    private int bestChange() {
        int best = NONE;
        int least = bothSides(now);
        trial.copy(now);
        for (int a = 0; a < trial.shades; a++) {
            for (int b = a + 1; b < trial.shades; b++) {
                trial.swap(a, b);
                int sides = bothSides(trial);
                trial.swap(a, b);
                if (sides < least) {
                    least = sides;
                    best = 100 * a + b;
                }
            }
        }
        return best;
    }

    private int bestShift() {
        int best = 0;
        int least = greatestMiss(0);
        for (int v = 1; v < SHIFTS; v++) {
            int greatest = greatestMiss(v);
            if (greatest < least) {
                least = greatest;
                best = v;
            }
        }
        return best;
    }

    private int greatestMiss(int v) {
        int greatest = 0;
        for (int pack = 0; pack < PACKS; pack++) {
            greatest = Math.max(greatest, outcome.missBy(now, v, 1 << pack));
        }
        return greatest;
    }

    private int band() {
        for (int b = 0; b < MOST_SIDE; b++) {
            if (now.cellsWithin(b) >= now.shades) {
                return b;
            }
        }
        return NONE;
    }

    // ---- doings that are judged, on the trial

    private boolean goesWell(int kind, int second, int third) {
        switch (kind) {
            case 1: return second == 0 && triedPack(third);
            case 2: return second == 0 && triedShift(third);
            case 3: return isDot(second, third) && comesOutRight(second * DOTS + third);
            case 4: return second == 0 && comesOutBlank(third);
            case 5: return triedChange(second, third);
            case 6: return outcome.missBy(trial, trial.shift, trial.lost) <= 10 * second + third;
            default: return false;
        }
    }

    private boolean triedPack(int pack) {
        if (!isPack(pack)) {
            return false;
        }
        trial.loseOrFind(pack);
        return true;
    }

    private boolean triedShift(int v) {
        if (!isShift(v)) {
            return false;
        }
        trial.shift = v;
        return true;
    }

    private boolean comesOutRight(int place) {
        outcome.send(trial, trial.shift, trial.lost);
        return outcome.dots[place] == trial.dots[place];
    }

    private boolean comesOutBlank(int line) {
        if (line < 0 || line >= LINES) {
            return false;
        }
        outcome.send(trial, trial.shift, trial.lost);
        return (outcome.blank >> line & 1) == 1;
    }

    private boolean triedChange(int a, int b) {
        if (!trial.hasShade(a) || !trial.hasShade(b) || a == b) {
            return false;
        }
        trial.swap(a, b);
        return true;
    }

    // ---- chances

    private void tellMisses() {
        for (int set = 0; set < SETS; set++) {
            misses[set] = outcome.missBy(now, now.shift, set);
        }
    }

    /** Of ALL_TENTHS, how likely it is that just these packs are lost. */
    private static int likelihood(int set, int x) {
        int product = 1;
        for (int pack = 0; pack < PACKS; pack++) {
            product *= (set >> pack & 1) == 1 ? x : TENTHS - x;
        }
        return product;
    }

    private static int fraction(int above, int below, boolean upper) {
        int common = Math.max(1, commonDivisor(Math.abs(above), below));
        return upper ? above / common : below / common;
    }

    private static int commonDivisor(int a, int b) {
        int greater = a;
        int less = b;
        // Euclid's rests at least halve in two steps, so 64 are enough for ints.
        for (int step = 0; step < 64 && less != 0; step++) {
            int rest = greater % less;
            greater = less;
            less = rest;
        }
        return greater;
    }

    /** THE TEXT, and its reading as a map. */
    private static final class Text {
        private final int[] letters = new int[MOST_LETTERS];
        private int length;

        private boolean add(int letter) {
            if (length >= MOST_LETTERS) {
                return false;
            }
            letters[length] = letter;
            length++;
            return true;
        }

        /** FAULT; if it is NONE, the state is the map as it is when it is new. */
        private int readInto(State state) {
            state.renew();
            for (int place = 0; place < length; place++) {
                if (!takes(state, place, letters[place])) {
                    return place;
                }
            }
            return length > 0 && length % 3 == 0 ? NONE : length;
        }

        private static boolean takes(State state, int place, int letter) {
            int figure = letter - '0';
            switch (place) {
                case 0: return letter == 'M';
                case 1: return state.tellRows(figure);
                case 2: return state.tellColumns(figure);
                default: break;
            }
            switch (place % 3) {
                case 0: return letter == 'i' && state.hasRoom();
                case 1: return state.tellRow(figure);
                default: return state.tellColumn(figure);
            }
        }
    }

    /** All that acts change and slots keep. */
    private static final class State {
        private int rows = 1;
        private int columns = 1;
        private int shades;
        private int shift = 1;
        private int lost;
        private final int[] rowOf = new int[MOST_SHADES];
        private final int[] columnOf = new int[MOST_SHADES];
        private final int[] dots = new int[LINES * DOTS];

        private void renew() {
            rows = 1;
            columns = 1;
            shades = 0;
            shift = 1;
            lost = 0;
            Arrays.fill(dots, 0);
        }

        private void copy(State from) {
            rows = from.rows;
            columns = from.columns;
            shades = from.shades;
            shift = from.shift;
            lost = from.lost;
            System.arraycopy(from.rowOf, 0, rowOf, 0, MOST_SHADES);
            System.arraycopy(from.columnOf, 0, columnOf, 0, MOST_SHADES);
            System.arraycopy(from.dots, 0, dots, 0, LINES * DOTS);
        }

        private boolean tellRows(int figure) {
            if (figure < 1 || figure > MOST_SIDE) {
                return false;
            }
            rows = figure;
            return true;
        }

        private boolean tellColumns(int figure) {
            if (figure < 1 || figure > MOST_SIDE) {
                return false;
            }
            columns = figure;
            return true;
        }

        private boolean hasRoom() {
            return shades < MOST_SHADES && shades < rows * columns;
        }

        /** The row of the shade that is being told; it counts once its column is told too. */
        private boolean tellRow(int row) {
            if (row < 0 || row >= rows || !hasRoom() || shadesInRow(row) >= columns) {
                return false;
            }
            rowOf[shades] = row;
            return true;
        }

        private boolean tellColumn(int column) {
            if (column < 0 || column >= columns || !hasRoom()
                    || shadeIn(rowOf[shades], column) != NONE) {
                return false;
            }
            columnOf[shades] = column;
            shades++;
            return true;
        }

        private boolean hasShade(int shade) {
            return shade >= 0 && shade < shades;
        }

        private boolean hasCell(int row, int column) {
            return row >= 0 && row < rows && column >= 0 && column < columns;
        }

        /** How many rows there are (half 0), or columns (half 1). */
        private int numbersOf(int half) {
            return half == 0 ? rows : columns;
        }

        /** The row of a shade (half 0), or its column (half 1). */
        private int numberIn(int half, int shade) {
            return half == 0 ? rowOf[shade] : columnOf[shade];
        }

        private int shadeIn(int row, int column) {
            for (int shade = 0; shade < shades; shade++) {
                if (rowOf[shade] == row && columnOf[shade] == column) {
                    return shade;
                }
            }
            return NONE;
        }

        private int shadesInRow(int row) {
            int count = 0;
            for (int shade = 0; shade < shades; shade++) {
                if (rowOf[shade] == row) {
                    count++;
                }
            }
            return count;
        }

        private int timesPainted(int shade) {
            int count = 0;
            for (int place = 0; place < LINES * DOTS; place++) {
                if (dots[place] == shade) {
                    count++;
                }
            }
            return count;
        }

        private void put(int shade, int row, int column) {
            if (hasShade(shade)) {
                rowOf[shade] = row;
                columnOf[shade] = column;
            }
        }

        private void swap(int a, int b) {
            if (hasShade(a) && hasShade(b)) {
                int row = rowOf[a];
                int column = columnOf[a];
                put(a, rowOf[b], columnOf[b]);
                put(b, row, column);
            }
        }

        private int cellsWithin(int b) {
            int count = 0;
            for (int row = 0; row < rows; row++) {
                for (int column = 0; column < columns; column++) {
                    if (Math.abs(row - column) <= b) {
                        count++;
                    }
                }
            }
            return count;
        }

        private void layWithin(int b) {
            int next = 0;
            for (int together = 0; together <= rows + columns - 2; together++) {
                for (int row = 0; row < rows; row++) {
                    int column = together - row;
                    if (hasCell(row, column) && Math.abs(row - column) <= b) {
                        put(next, row, column);
                        next++;
                    }
                }
            }
        }

        private void loseOrFind(int pack) {
            lost ^= 1 << pack;
        }

        /** A dot told by a drawn number, which is 0 or more. */
        private void paintBy(int v) {
            if (shades > 0 && v >= 0) {
                dots[v / DOTS % LINES * DOTS + v % DOTS] = v / (LINES * DOTS) % shades;
            }
        }
    }

    /** The states ahead of the last acts, in a ring, the first one forgotten when it is full. */
    private static final class Acts {
        private final State[] ahead = new State[MOST_ACTS];
        private int first;
        private int size;

        private Acts() {
            for (int i = 0; i < MOST_ACTS; i++) {
                ahead[i] = new State();
            }
        }

        private void remember(State state) {
            if (size == MOST_ACTS) {
                first = (first + 1) % MOST_ACTS;
                size--;
            }
            ahead[(first + size) % MOST_ACTS].copy(state);
            size++;
        }

        private boolean takeBackInto(State state) {
            if (size == 0) {
                return false;
            }
            size--;
            state.copy(ahead[(first + size) % MOST_ACTS]);
            return true;
        }

        private void forgetAll() {
            size = 0;
        }
    }

    /** What was kept to go on from. */
    private static final class Slots {
        private final State[] kept = new State[SLOTS];
        private int filled;

        private Slots() {
            for (int slot = 0; slot < SLOTS; slot++) {
                kept[slot] = new State();
            }
        }

        private void put(int slot, State state) {
            kept[slot].copy(state);
            filled |= 1 << slot;
        }

        private boolean takeInto(int slot, State state) {
            if ((filled >> slot & 1) == 0) {
                return false;
            }
            state.copy(kept[slot]);
            return true;
        }

        private void forgetAll() {
            filled = 0;
        }
    }

    /** What was seen of what came out. */
    private static final class Seen {
        private final int[] places = new int[MOST_SEEN];
        private final int[] values = new int[MOST_SEEN];
        private int size;

        private boolean add(int place, int value) {
            if (size >= MOST_SEEN) {
                return false;
            }
            places[size] = place;
            values[size] = value;
            size++;
            return true;
        }

        private boolean isSo(Outcome outcome) {
            for (int i = 0; i < size; i++) {
                if (outcome.dots[places[i]] != values[i]) {
                    return false;
                }
            }
            return true;
        }
    }

    /** The guess of each row and each column. */
    private static final class Guesses {
        private final int[] counts = new int[HALVES * MOST_SIDE];
        private final int[] sums = new int[HALVES * MOST_SIDE];
        private final int[] best = new int[HALVES * MOST_SIDE];

        private void take(State state) {
            Arrays.fill(counts, 0);
            Arrays.fill(sums, 0);
            for (int shade = 0; shade < state.shades; shade++) {
                count(state.rowOf[shade], shade);
                count(MOST_SIDE + state.columnOf[shade], shade);
            }
            for (int i = 0; i < HALVES * MOST_SIDE; i++) {
                best[i] = nearest(counts[i], sums[i]);
            }
        }

        private void count(int index, int shade) {
            counts[index]++;
            sums[index] += shade;
        }

        /**
         * The sum of squares is least at the whole number nearest to the mean, and the lower one
         * is asked for where two are as near; the mean is a shade's number or between two.
         */
        private static int nearest(int count, int sum) {
            return count == 0 ? NONE : (2 * sum + count - 1) / (2 * count);
        }

        private int of(int half, int number) {
            return best[half * MOST_SIDE + number];
        }

        /** How far off all guesses of a half are, of the state that was taken. */
        private int side(State state, int half) {
            int sum = 0;
            for (int shade = 0; shade < state.shades; shade++) {
                sum += square(shade - of(half, state.numberIn(half, shade)));
            }
            return sum;
        }
    }

    private static int square(int number) {
        return number * number;
    }

    /** What comes out of a picture by a shift and the packs that are lost. */
    private static final class Outcome {
        private final Guesses guesses = new Guesses();
        private final int[] dots = new int[LINES * DOTS];
        private int blank;

        private int missBy(State state, int shift, int lost) {
            send(state, shift, lost);
            int sum = 0;
            for (int place = 0; place < LINES * DOTS; place++) {
                sum += square(dots[place] - state.dots[place]);
            }
            return sum;
        }

        private void send(State state, int shift, int lost) {
            guesses.take(state);
            blank = 0;
            for (int line = 0; line < LINES; line++) {
                boolean rowsCame = came(lost, line);
                boolean columnsCame = came(lost, (line + SHIFTS - shift) % PACKS);
                if (rowsCame || columnsCame) {
                    fill(state, line, rowsCame, columnsCame);
                } else {
                    blank |= 1 << line;
                }
            }
            for (int line = 0; line < LINES; line++) {
                if (isBlank(line)) {
                    fillBlank(line);
                }
            }
        }

        private static boolean came(int lost, int pack) {
            return (lost >> pack & 1) == 0;
        }

        private boolean isBlank(int line) {
            return (blank >> line & 1) == 1;
        }

        private void fill(State state, int line, boolean rowsCame, boolean columnsCame) {
            for (int place = line * DOTS; place < (line + 1) * DOTS; place++) {
                int shade = state.dots[place];
                if (!state.hasShade(shade)) {
                    dots[place] = 0;
                } else if (rowsCame && columnsCame) {
                    dots[place] = shade;
                } else if (rowsCame) {
                    dots[place] = guesses.of(0, state.rowOf[shade]);
                } else {
                    dots[place] = guesses.of(1, state.columnOf[shade]);
                }
            }
        }

        private void fillBlank(int line) {
            int up = line - 1;
            while (up >= 0 && isBlank(up)) {
                up--;
            }
            int down = line + 1;
            while (down < LINES && isBlank(down)) {
                down++;
            }
            for (int dot = 0; dot < DOTS; dot++) {
                dots[line * DOTS + dot] = between(up, down, dot);
            }
        }

        private int between(int up, int down, int dot) {
            if (up < 0 && down >= LINES) {
                return 0;
            }
            if (up < 0) {
                return dots[down * DOTS + dot];
            }
            if (down >= LINES) {
                return dots[up * DOTS + dot];
            }
            return (dots[up * DOTS + dot] + dots[down * DOTS + dot]) / 2;
        }
    }
}
