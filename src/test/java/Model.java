import java.math.BigInteger;
import java.util.ArrayDeque;
import java.util.ArrayList;
import java.util.Arrays;
import java.util.Comparator;
import java.util.Deque;
import java.util.HashSet;
import java.util.List;
import java.util.Set;
import java.util.function.IntUnaryOperator;

/** The document said once more, as slowly and as literally as can be, to compare with. */
final class Model {
    static final int UNKNOWN = -1, BAD = -2, LATE = -3, FULL = -4, NONE = -9;

    /** What acts change and slots keep; a state is never changed, only replaced by another. */
    record State(List<int[]> cells, int[][] picture, int shift, Set<Integer> lost) {
        static State fresh(List<int[]> cells) {
            return new State(cells, new int[4][4], 1, Set.of());
        }

        State withCells(List<int[]> other) {
            return new State(other, picture, shift, lost);
        }

        State withDot(int line, int dot, int shade) {
            int[][] other = new int[4][];
            for (int i = 0; i < 4; i++) {
                other[i] = picture[i].clone();
            }
            other[line][dot] = shade;
            return new State(cells, other, shift, lost);
        }

        State withShift(int v) {
            return new State(cells, picture, v, lost);
        }

        State withLost(Set<Integer> other) {
            return new State(cells, picture, shift, other);
        }

        State flipped(int pack) {
            Set<Integer> other = new HashSet<>(lost);
            if (!other.remove(pack)) {
                other.add(pack);
            }
            return withLost(other);
        }

        State changed(int a, int b) {
            List<int[]> other = new ArrayList<>(cells);
            other.set(a, cells.get(b));
            other.set(b, cells.get(a));
            return withCells(other);
        }
    }

    private int r = 1, c = 1;
    private State now = State.fresh(List.of());
    private final StringBuilder text = new StringBuilder();
    private final Deque<State> acts = new ArrayDeque<>();
    private final List<int[]> seen = new ArrayList<>();
    private final State[] slots = new State[2];
    private long seed = 0;

    // ---- the map

    int write(int letter) {
        if (letter < 0 || letter > 255) return BAD;
        if (text.length() == 70) return FULL;
        text.append((char) letter);
        return text.length();
    }

    int wipe() {
        int was = text.length();
        text.setLength(0);
        return was;
    }

    static boolean isMap(String t) {
        if (!t.matches("M[1-6][1-6](i[0-5][0-5]){0,20}")) return false;
        Set<String> told = new HashSet<>();
        for (int i = 3; i < t.length(); i += 3) {
            if (t.charAt(i + 1) >= t.charAt(1) || t.charAt(i + 2) >= t.charAt(2)) return false;
            if (!told.add(t.substring(i + 1, i + 3))) return false;
        }
        return true;
    }

    /** No start of a map is more than three letters short of a map. */
    static boolean canBecomeMap(String t, int more) {
        if (isMap(t)) return true;
        if (more == 0) return false;
        for (char letter : "Mi0123456".toCharArray()) {
            if (canBecomeMap(t + letter, more - 1)) return true;
        }
        return false;
    }

    int fault() {
        String t = text.toString();
        if (isMap(t)) return NONE;
        for (int place = 0; place < t.length(); place++) {
            if (!canBecomeMap(t.substring(0, place + 1), 3)) return place;
        }
        return t.length();
    }

    int map() {
        String t = text.toString();
        if (!isMap(t)) return LATE;
        r = t.charAt(1) - '0';
        c = t.charAt(2) - '0';
        List<int[]> cells = new ArrayList<>();
        for (int i = 3; i < t.length(); i += 3) {
            cells.add(new int[] {t.charAt(i + 1) - '0', t.charAt(i + 2) - '0'});
        }
        now = State.fresh(cells);
        acts.clear();
        Arrays.fill(slots, null);
        return cells.size();
    }

    int about(int what) {
        switch (what) {
            case 0: return r;
            case 1: return c;
            case 2: return shades();
            case 3: return now.shift;
            case 4: return bits(now.lost);
            case 5: return blankBits(now);
            case 6: return missOf(now);
            case 7: return side(now, 0);
            case 8: return side(now, 1);
            case 9: return bestChange();
            case 10: return bestShift();
            case 11: return band();
            case 12: return acts.size();
            case 13: return seen.size();
            case 14: return text.length();
            default: return BAD;
        }
    }

    int shade(int shade, int what) {
        if (!isShade(shade)) return UNKNOWN;
        if (what == 0 || what == 1) return now.cells.get(shade)[what];
        if (what != 2) return BAD;
        return (int) Arrays.stream(now.picture).flatMapToInt(Arrays::stream)
            .filter(d -> d == shade).count();
    }

    int cell(int row, int column) {
        if (!in(row, r) || !in(column, c)) return UNKNOWN;
        return shadeAt(now, row, column);
    }

    int guess(int half, int number) {
        if (!in(half, 2)) return BAD;
        if (!in(number, half == 0 ? r : c)) return UNKNOWN;
        return guessOf(now, half, number);
    }

    int dot(int line, int dot, boolean out) {
        if (!in(line, 4) || !in(dot, 4)) return UNKNOWN;
        return out ? outOf(now)[line][dot] : now.picture[line][dot];
    }

    // ---- acts

    int change(int a, int b) {
        if (!isShade(a) || !isShade(b)) return UNKNOWN;
        if (a == b) return LATE;
        act(now.changed(a, b));
        return sides(now);
    }

    int move(int shade, int row, int column) {
        if (!isShade(shade) || !in(row, r) || !in(column, c)) return UNKNOWN;
        if (shadeAt(now, row, column) != NONE) return LATE;
        List<int[]> cells = new ArrayList<>(now.cells);
        cells.set(shade, new int[] {row, column});
        act(now.withCells(cells));
        return sides(now);
    }

    int lay(int b) {
        if (!in(b, 6)) return BAD;
        List<int[]> along = slope(b);
        if (along.size() < shades()) return LATE;
        act(now.withCells(new ArrayList<>(along.subList(0, shades()))));
        return sides(now);
    }

    int paint(int line, int dot, int shade) {
        if (!in(line, 4) || !in(dot, 4) || !isShade(shade)) return UNKNOWN;
        int was = now.picture[line][dot];
        act(now.withDot(line, dot, shade));
        return was;
    }

    int shift(int v) {
        if (!in(v, 4)) return BAD;
        int was = now.shift;
        act(now.withShift(v));
        return was;
    }

    int lose(int pack) {
        if (!in(pack, 4)) return UNKNOWN;
        act(now.flipped(pack));
        return now.lost.contains(pack) ? 1 : 0;
    }

    int undo() {
        if (acts.isEmpty()) return LATE;
        now = acts.removeLast();
        return acts.size();
    }

    // ---- asked

    int miss(int set) {
        if (!in(set, 16)) return BAD;
        return missBySet(set);
    }

    int judge(int n, long row) {
        if (n < 1 || n > 4 || row < 0) return BAD;
        String figures = Long.toString(row);
        if (figures.length() > 3 * n) return BAD;
        figures = "0".repeat(3 * n - figures.length()) + figures;
        State state = now;
        for (int place = 0; place < n; place++) {
            state = judged(state, figures.substring(3 * place, 3 * place + 3));
            if (state == null) return place;
        }
        return NONE;
    }

    private State judged(State state, String doing) {
        int second = doing.charAt(1) - '0';
        int third = doing.charAt(2) - '0';
        if (doing.matches("10[0-3]")) return state.flipped(third);
        if (doing.matches("20[0-3]")) return state.withShift(third);
        if (doing.matches("3[0-3][0-3]")) {
            return outOf(state)[second][third] == state.picture[second][third] ? state : null;
        }
        if (doing.matches("40[0-3]")) {
            return (blankBits(state) & 1 << third) != 0 ? state : null;
        }
        if (doing.matches("5[0-9][0-9]")) {
            boolean can = isShade(second) && isShade(third) && second != third;
            return can ? state.changed(second, third) : null;
        }
        if (doing.matches("6[0-9][0-9]")) {
            return missOf(state) <= Integer.parseInt(doing.substring(1)) ? state : null;
        }
        return null;
    }

    // ---- seen

    int see(int line, int dot, int v) {
        if (!in(line, 4) || !in(dot, 4)) return UNKNOWN;
        if (!in(v, 20)) return BAD;
        if (seen.size() == 6) return FULL;
        seen.add(new int[] {line, dot, v});
        return seen.size();
    }

    int unsee() {
        int was = seen.size();
        seen.clear();
        return was;
    }

    int which() {
        int sets = 0;
        for (int set = 0; set < 16; set++) {
            int[][] out = outOf(now.withLost(setOf(set)));
            if (seen.stream().allMatch(s -> out[s[0]][s[1]] == s[2])) sets += 1 << set;
        }
        return sets;
    }

    // ---- shares, chances

    int share(int pack, boolean upper) {
        if (!in(pack, 4)) return UNKNOWN;
        long sum = 0;
        int orders = 0;
        for (int a = 0; a < 256; a++) {
            int[] order = {a / 64, a / 16 % 4, a / 4 % 4, a % 4};
            if (Arrays.stream(order).distinct().count() != 4) continue;
            orders++;
            int lost = 15;
            for (int next : order) {
                int then = lost - (1 << next);
                if (next == pack) sum += missBySet(lost) - missBySet(then);
                lost = then;
            }
        }
        return told(sum, orders, upper);
    }

    int chance(int m, int x, boolean upper) {
        if (m < 0 || m > 9999 || x < 0 || x > 10) return BAD;
        return told(overTenths(x, miss -> miss <= m ? 1 : 0), 10000, upper);
    }

    int mean(int x, boolean upper) {
        if (x < 0 || x > 10) return BAD;
        return told(overTenths(x, miss -> miss), 10000, upper);
    }

    long seed(long v) {
        long was = seed;
        seed = v;
        return was;
    }

    int drawn(int m) {
        if (m < 1 || m > 20) return BAD;
        int sum = 0;
        State state = now;
        for (int i = 0; i < m; i++) {
            seed = BigInteger.valueOf(seed).multiply(new BigInteger("6364136223846793005"))
                .add(new BigInteger("1442695040888963407")).longValue();
            int v = (int) (seed >>> 33);
            if (shades() > 0) state = state.withDot(v / 4 % 4, v % 4, v / 16 % shades());
            sum += missOf(state);
        }
        return sum;
    }

    // ---- slots

    int keep(int slot) {
        if (!in(slot, 2)) return UNKNOWN;
        slots[slot] = now;
        return bits(now.lost);
    }

    int again(int slot) {
        if (!in(slot, 2)) return UNKNOWN;
        if (slots[slot] == null) return LATE;
        now = slots[slot];
        acts.clear();
        return bits(now.lost);
    }

    // ---- the terms

    private static boolean in(int number, int end) {
        return number >= 0 && number < end;
    }

    private int shades() {
        return now.cells.size();
    }

    private boolean isShade(int shade) {
        return in(shade, shades());
    }

    private void act(State then) {
        if (acts.size() == 14) acts.removeFirst();
        acts.addLast(now);
        now = then;
    }

    private static int shadeAt(State state, int row, int column) {
        for (int s = 0; s < state.cells.size(); s++) {
            if (Arrays.equals(state.cells.get(s), new int[] {row, column})) return s;
        }
        return NONE;
    }

    private int guessOf(State state, int half, int number) {
        int best = NONE;
        int least = Integer.MAX_VALUE;
        for (int g = 0; g < state.cells.size(); g++) {
            int sum = 0;
            int count = 0;
            for (int s = 0; s < state.cells.size(); s++) {
                if (state.cells.get(s)[half] == number) {
                    sum += (s - g) * (s - g);
                    count++;
                }
            }
            if (count > 0 && sum < least) {
                least = sum;
                best = g;
            }
        }
        return best;
    }

    private int side(State state, int half) {
        int sum = 0;
        for (int s = 0; s < state.cells.size(); s++) {
            int off = s - guessOf(state, half, state.cells.get(s)[half]);
            sum += off * off;
        }
        return sum;
    }

    private int sides(State state) {
        return side(state, 0) + side(state, 1);
    }

    /** Looks for the half in what each pack holds, as the document tells packs. */
    private static boolean came(State state, int half, int line) {
        for (int k = 0; k < 4; k++) {
            boolean holds = half == 0 ? line == k : line == (k + state.shift) % 4;
            if (holds) return !state.lost.contains(k);
        }
        throw new IllegalStateException("a half in no pack");
    }

    private static boolean blank(State state, int line) {
        return !came(state, 0, line) && !came(state, 1, line);
    }

    private static int blankBits(State state) {
        int bits = 0;
        for (int line = 0; line < 4; line++) {
            if (blank(state, line)) bits += 1 << line;
        }
        return bits;
    }

    private int[][] outOf(State state) {
        int[][] out = new int[4][4];
        if (state.cells.isEmpty()) return out;
        for (int line = 0; line < 4; line++) {
            for (int dot = 0; dot < 4; dot++) {
                out[line][dot] = blank(state, line)
                    ? outOfBlank(state, line, dot) : outOfOther(state, line, dot);
            }
        }
        return out;
    }

    private int outOfOther(State state, int line, int dot) {
        int shade = state.picture[line][dot];
        boolean rows = came(state, 0, line);
        boolean columns = came(state, 1, line);
        if (rows && columns) return shade;
        int half = rows ? 0 : 1;
        return guessOf(state, half, state.cells.get(shade)[half]);
    }

    private int outOfBlank(State state, int line, int dot) {
        List<Integer> near = new ArrayList<>();
        for (int up = line - 1; up >= 0; up--) {
            if (!blank(state, up)) {
                near.add(outOfOther(state, up, dot));
                break;
            }
        }
        for (int down = line + 1; down < 4; down++) {
            if (!blank(state, down)) {
                near.add(outOfOther(state, down, dot));
                break;
            }
        }
        if (near.isEmpty()) return 0;
        return near.stream().mapToInt(Integer::intValue).sum() / near.size();
    }

    private int missOf(State state) {
        int[][] out = outOf(state);
        int sum = 0;
        for (int line = 0; line < 4; line++) {
            for (int dot = 0; dot < 4; dot++) {
                int off = out[line][dot] - state.picture[line][dot];
                sum += off * off;
            }
        }
        return sum;
    }

    private int missBySet(int set) {
        return missOf(now.withLost(setOf(set)));
    }

    private static Set<Integer> setOf(int bits) {
        Set<Integer> set = new HashSet<>();
        for (int k = 0; k < 4; k++) {
            if ((bits & 1 << k) != 0) set.add(k);
        }
        return set;
    }

    private static int bits(Set<Integer> set) {
        return set.stream().mapToInt(k -> 1 << k).sum();
    }

    private List<int[]> slope(int b) {
        List<int[]> cells = new ArrayList<>();
        for (int column = c - 1; column >= 0; column--) {
            for (int row = r - 1; row >= 0; row--) {
                if (row - column <= b && column - row <= b) cells.add(new int[] {row, column});
            }
        }
        cells.sort(Comparator.<int[]>comparingInt(x -> x[0] + x[1]).thenComparingInt(x -> x[0]));
        return cells;
    }

    private int bestChange() {
        int best = NONE;
        int least = sides(now);
        for (int told = 1; told < 2000; told++) {
            int a = told / 100;
            int b = told % 100;
            if (a >= b || !isShade(b)) continue;
            int then = sides(now.changed(a, b));
            if (then < least) {
                least = then;
                best = told;
            }
        }
        return best;
    }

    private int bestShift() {
        int best = -1;
        int least = Integer.MAX_VALUE;
        for (int v = 0; v < 4; v++) {
            int greatest = 0;
            for (int k = 0; k < 4; k++) {
                greatest = Math.max(greatest, missOf(now.withShift(v).withLost(Set.of(k))));
            }
            if (greatest < least) {
                least = greatest;
                best = v;
            }
        }
        return best;
    }

    private int band() {
        for (int b = 0; b <= 5; b++) {
            if (slope(b).size() >= shades()) return b;
        }
        return NONE;
    }

    /** The sum over all 10,000 ways that four ten-sided dice fall, a pack being lost below x. */
    private long overTenths(int x, IntUnaryOperator of) {
        int[] misses = new int[16];
        for (int set = 0; set < 16; set++) misses[set] = missBySet(set);
        long sum = 0;
        for (int fall = 0; fall < 10000; fall++) {
            int set = 0;
            for (int k = 0, rest = fall; k < 4; k++, rest /= 10) {
                if (rest % 10 < x) set += 1 << k;
            }
            sum += of.applyAsInt(misses[set]);
        }
        return sum;
    }

    private static int told(long above, long below, boolean upper) {
        BigInteger common = BigInteger.valueOf(above).gcd(BigInteger.valueOf(below));
        return (int) ((upper ? above : below) / common.longValueExact());
    }
}
