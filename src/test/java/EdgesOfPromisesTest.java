import java.io.IOException;
import java.util.function.IntUnaryOperator;

/** The edges that promises 1 to 29 name, each refusal at its edge and on both sides of it. */
public final class EdgesOfPromisesTest extends Edges {
    EdgesOfPromisesTest() {
        says("calls", "An object is used for at most 512 calls after it has been made;", this::calls);
        says("p1", "`TwoHalves()`: One cell, no shades.", this::newObject);
        says("p2", "A letter (0 .. 255) comes behind THE TEXT: how long it is.", this::write);
        says("p2full", "BAD; FULL: there are 70.", this::writeFull);
        says("p3", "THE TEXT is empty: how long it was.", this::wipe);
        says("p4", "`int fault()`: FAULT; NONE.", this::fault);
        says("p5", "THE TEXT is THE MAP (all DOTS are SHADE 0, SHIFT is 1, no PACK is LOST, no ACTS;",
            this::map);
        says("p5kept", "what was kept is gone; THE TEXT, SEEN, THE SEED stay): how many SHADES.",
            this::mapKept);
        says("p5late", "LATE: a FAULT.", this::mapLate);
        says("p6", "r (what = 0), c (1), SHADES (2), SHIFT (3), PACKS that are LOST (4: bits), LINES that "
            + "are BLANK (5: bits), MISS (6), SIDE of HALF 0 (7), of HALF 1 (8), BEST CHANGE (9; NONE), "
            + "BEST SHIFT (10), BAND (11; NONE), ACTS (12), SEEN (13), letters of THE TEXT (14). BAD.",
            this::about);
        says("p7", "Of a SHADE its ROW (what = 0), COLUMN (1), how often it is in THE PICTURE (2). "
            + "UNKNOWN; BAD.", this::shade);
        says("p8", "The SHADE in a CELL; NONE: it is empty. UNKNOWN: row, column.", this::cell);
        says("p9", "GUESS of a ROW (half = 0), a COLUMN (1); NONE. BAD: half; UNKNOWN: number.",
            this::guess);
        says("p10", "A DOT of THE PICTURE (out = false), what comes out there (true). UNKNOWN: line, dot.",
            this::dot);
        says("p11", "CHANGED: SIDES of both HALVES, together, then. UNKNOWN: a, b; LATE: they are one.",
            this::change);
        says("p12", "MOVED: SIDES of both HALVES, together, then. UNKNOWN: shade, row, column; LATE: the "
            + "CELL is not empty.", this::move);
        says("p13", "LAID: SIDES of both HALVES, together, then. BAD: b (0 .. 5); LATE: there are too few "
            + "CELLS.", this::lay);
        says("p14", "A DOT is a SHADE: what it was. UNKNOWN: line, dot, shade.", this::paint);
        says("p15", "SHIFT is v: what it was. BAD: v (0 .. 3).", this::shift);
        says("p16", "A PACK is LOST, or found: 1 if it is LOST then, 0. UNKNOWN.", this::lose);
        says("p17", "The last ACT is undone: how many are left. LATE: there is none.", this::undo);
        says("p18", "MISS, if a set of PACKS (0 .. 15) were LOST (those alone). BAD: set.", this::miss);
        says("p19", "JUDGED; NONE. BAD: n, row (0 or more, 3 n figures at most).", this::judge);
        says("p20", "SEEN: how many there are. UNKNOWN: line, dot; BAD: v (0 .. 19); FULL: 6.", this::see);
        says("p21", "Nothing is SEEN: how much there was.", this::unsee);
        says("p22", "`int which()`: WHICH.", this::which);
        says("p23", "SHARE. UNKNOWN.", this::share);
        says("p24", "CHANCE. BAD: m, x.", this::chance);
        says("p25", "MEAN. BAD: x.", this::mean);
        says("p26", "THE SEED is v: what it was.", this::seed);
        says("p27", "DRAWN. BAD: m.", this::drawn);
        says("p28", "They are kept: PACKS that are LOST, as bits. UNKNOWN.", this::keep);
        says("p29", "They are as they were kept: PACKS that are LOST, as bits. UNKNOWN; LATE: none were "
            + "kept.", this::again);
    }

    public static void main(String[] args) throws IOException {
        new EdgesOfPromisesTest().end();
    }

    /** All from low to high is taken, what is next to them and far from them is refused. */
    private void range(String call, int low, int high, int refusal, IntUnaryOperator asked) {
        for (int v : new int[] {LOW, low - 1, high + 1, HIGH}) {
            due(call + " of " + v, asked.applyAsInt(v), refusal);
        }
        for (int v : new int[] {low, Math.min(low + 1, high), Math.max(low, high - 1), high}) {
            due(call + " of " + v + " is refused", asked.applyAsInt(v) == refusal ? 1 : 0, 0);
        }
    }

    private void calls() {
        TwoHalves x = of(PAIR);
        for (int call = 11; call <= 509; call++) {
            x.lose(call % 4);
        }
        due("call 510", x.about(12), 14);
        // pack 3 was lost or found 125 times
        due("call 511", x.lose(3), 0);
        due("call 512", x.undo(), 13);
    }

    // ---- the map

    private void newObject() {
        TwoHalves x = new TwoHalves();
        due("r", x.about(0), 1);
        due("c", x.about(1), 1);
        due("shades", x.about(2), 0);
        due("the cell", x.cell(0, 0), NONE);
        due("another row", x.cell(1, 0), UNKNOWN);
        due("another column", x.cell(0, 1), UNKNOWN);
        due("shade 0", x.shade(0, 0), UNKNOWN);
        int[] rest = {1, 0, 0, 0, 0, 0, NONE, 0, 0, 0, 0, 0};
        for (int what = 3; what <= 14; what++) {
            due("about(" + what + ")", x.about(what), rest[what - 3]);
        }
        due("nothing to undo", x.undo(), LATE);
        due("slot 0", x.again(0), LATE);
        due("slot 1", x.again(1), LATE);
        due("seed", x.seed(1), 0);
        due("another new one is by itself", new TwoHalves().seed(1), 0);
    }

    private void write() {
        TwoHalves x = new TwoHalves();
        range("write", 0, 255, BAD, x::write);
        due("letters 0, 1, 254, 255", x.about(14), 4);
        due("behind them", x.write('M'), 5);
        due("the first is not M", x.fault(), 0);
        TwoHalves y = written("M11");
        due("M11", y.fault(), NONE);
        due("a letter behind it", y.write('i'), 4);
        due("not at its end", y.fault(), 4);
    }

    private void writeFull() {
        TwoHalves x = new TwoHalves();
        for (int i = 0; i < 69; i++) {
            x.write('M');
        }
        due("bad at 69", x.write(256), BAD);
        due("the 70th", x.write('M'), 70);
        due("the 71st", x.write('M'), FULL);
        due("the 71st, bad", x.write(-1), BAD);
        due("70", x.about(14), 70);
        x.wipe();
        due("the first again", x.write('M'), 1);
    }

    private void wipe() {
        TwoHalves x = new TwoHalves();
        due("of none", x.wipe(), 0);
        x.write('M');
        due("of one", x.wipe(), 1);
        due("empty", x.about(14), 0);
        due("of none again", x.wipe(), 0);
        for (int i = 0; i < 75; i++) {
            x.write('i');
        }
        due("of 70", x.wipe(), 70);
        write(x, "M11");
        due("none of what was is left", x.fault(), NONE);
    }

    private void fault() {
        TwoHalves x = new TwoHalves();
        due("of nothing", x.fault(), 0);
        String text = "M12i01i00";
        int[] want = {1, 2, NONE, 4, 5, NONE, 7, 8, NONE};
        for (int i = 0; i < text.length(); i++) {
            x.write(text.charAt(i));
            due("letter by letter", x.fault(), want[i]);
        }
        x.write('i');
        due("no cell is empty", x.fault(), 9);
        due("it does not change the table", x.about(1), 1);
        faultAside("M11", NONE);
        faultAside("M66i55i44i33i22i11i00i01", NONE);
        faultAside("M6", 2);
    }

    /** What is read of another text is not taken for the map, by no call. */
    private void faultAside(String text, int want) {
        TwoHalves x = of("M24i00i11i02i13");
        TwoHalves y = of("M24i00i11i02i13");
        x.wipe();
        write(x, text);
        int[] kinds = {0, 1, 2, 3, 4, 5, 6, 7, 8, 9, 10, 11, 12, 13, 14, 7, 10, 15, 16, 16, 16, 15, 16, 2,
            16, 15, 16, 16, 16, 17, 18, 8};
        for (int i = 0; i < kinds.length; i++) {
            due("fault() of " + text, x.fault(), want);
            due("as without it, call " + i, someCall(x, kinds[i]), someCall(y, kinds[i]));
            due("shift and lost", 100 * x.about(3) + x.about(4), 100 * y.about(3) + y.about(4));
            due("sides", x.about(7) + x.about(8), y.about(7) + y.about(8));
        }
    }

    private static int someCall(TwoHalves x, int kind) {
        switch (kind) {
            case 0: return 10 * x.about(0) + x.about(1);
            case 1: return x.about(11);
            case 2: return x.shade(3, 1);
            case 3: return x.shade(4, 0);
            case 4: return x.cell(1, 3);
            case 5: return x.cell(2, 0);
            case 6: return x.guess(1, 3);
            case 7: return x.change(3, 0);
            case 8: return x.move(1, 1, 0);
            case 9: return x.lay(0);
            case 10: return x.lay(2);
            case 11: return x.paint(0, 0, 3);
            case 12: return x.paint(0, 0, 4);
            case 13: return x.shift(3);
            case 14: return x.lose(0);
            case 15: return x.about(6);
            case 16: return x.undo();
            case 17: return x.which();
            default: return x.keep(0) + 10 * x.again(0);
        }
    }

    /** An object in which nothing is as at first. */
    private static TwoHalves busy() {
        TwoHalves x = of("M33i00i11i22i02");
        for (int i = 0; i < 16; i++) {
            x.paint(i / 4, i % 4, 1 + i % 3);
        }
        x.shift(2);
        x.lose(0);
        x.lose(3);
        x.keep(0);
        x.keep(1);
        x.see(1, 2, 3);
        x.judge(1, 101);
        x.seed(-5);
        return x;
    }

    private void map() {
        TwoHalves x = busy();
        x.wipe();
        write(x, "M24i13i00");
        due("shades", x.map(), 2);
        due("r", x.about(0), 2);
        due("c", x.about(1), 4);
        due("shade 0", x.cell(1, 3), 0);
        due("shade 1", x.cell(0, 0), 1);
        due("what was there", x.cell(1, 1), NONE);
        due("all dots are 0", x.shade(0, 2), 16);
        due("shift", x.about(3), 1);
        due("lost", x.about(4), 0);
        due("acts", x.about(12), 0);
        due("undo", x.undo(), LATE);
        x.lose(2);
        due("the same once more", x.map(), 2);
        due("lost once more", x.about(4), 0);
        due("no shades", of("M66").about(2), 0);
    }

    private void mapKept() {
        TwoHalves x = busy();
        x.wipe();
        write(x, "M11");
        due("no shades", x.map(), 0);
        due("slot 0", x.again(0), LATE);
        due("slot 1", x.again(1), LATE);
        due("letters stay", x.about(14), 3);
        due("fault of them", x.fault(), NONE);
        due("seen stays", x.about(13), 1);
        due("seed stays", x.seed(0), -5);
        due("kept anew", x.keep(1), 0);
        due("slot 1 then", x.again(1), 0);
        due("slot 0 not by that", x.again(0), LATE);
        due("twenty", written(table(5, 4, 20)).map(), 20);
    }

    private void mapLate() {
        due("of nothing", new TwoHalves().map(), LATE);
        due("a letter short", written("M1").map(), LATE);
        due("just a map", written("M11").map(), 0);
        due("a letter too much", written("M11i").map(), LATE);
        due("two too much", written("M11i0").map(), LATE);
        due("just a map of one", written("M11i00").map(), 1);
        due("one too much", written("M11i00x").map(), LATE);
        due("21 shades", written(table(6, 6, 21)).map(), LATE);
        TwoHalves x = busy();
        String before = stand(x);
        x.write('x');
        due("late", x.map(), LATE);
        x.wipe();
        write(x, "M33i00i11i22i02");
        same("all", stand(x), before);
    }

    private void about() {
        TwoHalves x = of("M24i00i11i02i13");
        x.lose(0);
        x.lose(3);
        paintLine(x, 0, 0, 1, 2, 3);
        x.see(0, 0, 0);
        x.see(0, 0, 1);
        x.see(0, 0, 2);
        // rows {0, 2}, {1, 3} guess 1, 2, columns are exact; packs 0 and 3 with shift 1: line 1 is 1 by
        // rows, and so is line 0, which is blank; by any one pack: 14 with shift 0, else 4
        int[] want = {2, 4, 4, 1, 9, 1, 10, 4, 0, 3, 1, 1, 6, 3, 15};
        for (int what = 0; what <= 14; what++) {
            due("about(" + what + ")", x.about(what), want[what]);
        }
        range("about", 0, 14, BAD, what -> x.about(what) == NONE ? 0 : x.about(what));
        due("best change that is none", of(PAIR).about(9), NONE);
        TwoHalves y = of(SQUARE);
        y.shift(2);
        // rows {0, 1}, {2, 3} are 2 off, columns {0, 2}, {1, 3} are 4, and no change makes 6 less
        int[] then = {2, 2, 4, 2, 0, 0, 0, 2, 4, NONE, 0, 1, 1, 0, 15};
        for (int what = 0; what <= 14; what++) {
            due("about(" + what + ") of the square", y.about(what), then[what]);
        }
        due("the widest band", of(table(1, 6, 6)).about(11), 5);
    }

    private void shade() {
        TwoHalves x = of("M35i24i03");
        x.paint(1, 1, 1);
        range("shade", 0, 1, UNKNOWN, s -> x.shade(s, 0));
        range("what", 0, 2, BAD, what -> x.shade(0, what));
        range("shade, and what is bad", 0, 1, UNKNOWN, s -> x.shade(s, 3));
        due("row of 0", x.shade(0, 0), 2);
        due("column of 0", x.shade(0, 1), 4);
        due("how often 0 is", x.shade(0, 2), 15);
        due("how often 1 is", x.shade(1, 2), 1);
        x.paint(1, 1, 0);
        due("never", x.shade(1, 2), 0);
        due("always", x.shade(0, 2), 16);
        due("none at first, though dots are 0", new TwoHalves().shade(0, 2), UNKNOWN);
    }

    private void cell() {
        TwoHalves x = of("M35i24i03");
        range("row", 0, 2, UNKNOWN, row -> x.cell(row, 0));
        range("column", 0, 4, UNKNOWN, column -> x.cell(0, column));
        due("both too large", x.cell(3, 5), UNKNOWN);
        due("both too small", x.cell(-1, -1), UNKNOWN);
        due("the last cell", x.cell(2, 4), 0);
        due("shade 1", x.cell(0, 3), 1);
        due("empty", x.cell(0, 4), NONE);
        due("empty too", x.cell(2, 3), NONE);
    }

    private void guess() {
        TwoHalves x = of("M35i24i03i00");
        range("half", 0, 1, BAD, half -> x.guess(half, 0));
        range("row", 0, 2, UNKNOWN, row -> x.guess(0, row));
        range("column", 0, 4, UNKNOWN, column -> x.guess(1, column));
        range("half, and the number is unknown", 0, 1, BAD, half -> x.guess(half, 9));
        due("row 0: 1 and 2", x.guess(0, 0), 1);
        due("row 1: none", x.guess(0, 1), NONE);
        due("row 2: 0", x.guess(0, 2), 0);
        due("column 3: 1", x.guess(1, 3), 1);
        due("column 1: none", x.guess(1, 1), NONE);
    }

    private void dot() {
        TwoHalves x = of(SQUARE);
        x.paint(3, 3, 1);
        range("line", 0, 3, UNKNOWN, line -> x.dot(line, 0, false));
        range("dot", 0, 3, UNKNOWN, dot -> x.dot(0, dot, false));
        range("line out", 0, 3, UNKNOWN, line -> x.dot(line, 3, true));
        range("dot out", 0, 3, UNKNOWN, dot -> x.dot(3, dot, true));
        x.lose(3);
        due("as it is", x.dot(3, 3, false), 1);
        due("as it comes out, by its column", x.dot(3, 3, true), 2);
        x.lose(3);
        due("as it comes out whole", x.dot(3, 3, true), 1);
        x.paint(0, 2, 3);
        due("as it was told", x.dot(0, 2, false), 3);
        due("as it was at first, next to it", x.dot(0, 3, false), 0);
    }

    // ---- acts

    private void change() {
        TwoHalves x = of("M13i00i01i02");
        range("a", 0, 1, UNKNOWN, a -> a == 2 ? UNKNOWN : x.change(a, 2));
        range("b", 0, 1, UNKNOWN, b -> b == 2 ? UNKNOWN : x.change(2, b));
        due("a one too large", x.change(3, 0), UNKNOWN);
        due("b one too large", x.change(0, 3), UNKNOWN);
        due("they are one, and unknown", x.change(3, 3), UNKNOWN);
        for (int s = 0; s < 3; s++) {
            due("they are one", x.change(s, s), LATE);
        }
        TwoHalves y = of("M23i00i01i12");
        // rows {0, 2}, {1} then, columns are exact
        due("sides then", y.change(1, 2), 2);
        due("sides as told", y.about(7) + y.about(8), 2);
        due("sides then, back", y.change(2, 1), 1);
        TwoHalves z = of(SQUARE);
        // rows {3, 1}, {2, 0} are 4 off, columns {3, 2}, {1, 0} are 2; then the other way about
        due("both sides off", z.change(0, 3), 6);
        due("both sides off, of HALF 0", z.about(7), 4);
        due("both sides off, the other way", z.change(1, 2), 6);
        due("both sides off, of HALF 1", z.about(8), 4);
        due("both are acts", z.undo(), 1);
        due("back in row 0", z.shade(1, 0), 0);
        due("without shades", new TwoHalves().change(0, 1), UNKNOWN);
    }

    private void move() {
        TwoHalves x = of("M24i00i01");
        range("shade", 0, 1, UNKNOWN, s -> x.move(s, 1, 0));
        range("row", 0, 1, UNKNOWN, row -> x.move(0, row, 0));
        range("column", 0, 3, UNKNOWN, column -> x.move(0, 0, column));
        due("unknown row, column", x.move(0, 2, 4), UNKNOWN);
        TwoHalves y = of("M24i00i01i13");
        due("not empty", y.move(0, 0, 1), LATE);
        due("its own", y.move(0, 0, 0), LATE);
        due("the last cell is not empty", y.move(0, 1, 3), LATE);
        // row 0: 0, 1, 2; then row 1: 0, row 0: 1, 2; then column 3: 0 and 2
        due("sides then", y.move(2, 0, 3), 2);
        due("into the cell that was left", y.move(0, 1, 3), 3);
        due("into the cell that was left then", y.move(0, 0, 0), 2);
        due("all three are acts", y.undo(), 2);
        due("back in row 1", y.shade(0, 0), 1);
        due("back in column 3", y.shade(0, 1), 3);
        due("without shades", new TwoHalves().move(0, 0, 0), UNKNOWN);
    }

    private void lay() {
        TwoHalves x = of("M24i00i01i13");
        range("b", 0, 5, BAD, x::lay);
        due("3 by 0", x.lay(0), LATE);
        due("3 by 1", x.lay(1), 3);
        TwoHalves y = of("M24i00i13");
        // exact on the diagonal; in row 0 by 1 and more
        due("2 by 0", y.lay(0), 0);
        due("2 by 1", y.lay(1), 1);
        due("sides as told", y.about(7) + y.about(8), 1);
        due("both are acts", y.undo(), 1);
        due("back on the diagonal", y.shade(1, 0), 1);
        due("bad, and too few", of(table(1, 6, 6)).lay(-1), BAD);
        due("6 by 4", of(table(1, 6, 6)).lay(4), LATE);
        due("6 by 5", of(table(1, 6, 6)).lay(5), 19);
        due("none by 0", new TwoHalves().lay(0), 0);
    }

    private void paint() {
        TwoHalves x = of(SQUARE);
        range("line", 0, 3, UNKNOWN, line -> x.paint(line, 0, 1));
        range("dot", 0, 3, UNKNOWN, dot -> x.paint(0, dot, 1));
        range("shade", 0, 3, UNKNOWN, s -> x.paint(3, 3, s));
        due("what it was: the last of these", x.paint(3, 3, 2), 3);
        due("what it was then", x.paint(3, 3, 0), 2);
        due("what it is", x.dot(3, 3, false), 0);
        due("what it was in a corner", x.paint(0, 0, 0), 1);
        due("what it was in another", x.paint(0, 3, 0), 1);
        due("an act", x.undo(), 13);
        due("what it is again", x.dot(0, 3, false), 1);
        due("without shades", new TwoHalves().paint(0, 0, 0), UNKNOWN);
    }

    private void shift() {
        TwoHalves x = new TwoHalves();
        range("v", 0, 3, BAD, x::shift);
        due("what it was: the last of these", x.shift(0), 3);
        due("what it was then", x.shift(2), 0);
        due("the same", x.shift(2), 2);
        due("what it is", x.about(3), 2);
        due("the last of seven acts", x.undo(), 6);
        due("as it was ahead of it", x.about(3), 2);
        due("the one ahead of that", x.undo(), 5);
        due("as it was ahead of that", x.about(3), 0);
    }

    private void lose() {
        TwoHalves x = new TwoHalves();
        range("pack", 0, 3, UNKNOWN, x::lose);
        TwoHalves y = new TwoHalves();
        for (int pack = 0; pack < 4; pack++) {
            due("lost", y.lose(pack), 1);
        }
        due("all", y.about(4), 15);
        for (int pack = 3; pack >= 0; pack--) {
            due("found", y.lose(pack), 0);
            due("those below", y.about(4), (1 << pack) - 1);
        }
        due("lost again", y.lose(3), 1);
        due("the last of nine acts", y.undo(), 8);
        due("found again", y.about(4), 0);
    }

    private void undo() {
        TwoHalves x = of("M33i00i11i22");
        due("there is none", x.undo(), LATE);
        String before = stand(x);
        x.change(0, 1);
        x.move(0, 0, 2);
        x.lay(1);
        x.paint(3, 3, 2);
        x.shift(0);
        x.lose(1);
        x.lose(1);
        for (int left = 6; left >= 0; left--) {
            due("so many are left", x.undo(), left);
        }
        same("all", stand(x), before);
        due("there is none any more", x.undo(), LATE);
        for (int i = 0; i < 15; i++) {
            x.lose(0);
        }
        due("of 15 one is forgotten", x.undo(), 13);
        due("it was found", x.about(4), 0);
    }

    // ---- asked, seen

    private void miss() {
        TwoHalves x = of(PAIR);
        x.shift(0);
        paintLine(x, 0, 1, 1, 1, 1);
        range("set", 0, 15, BAD, x::miss);
        int[] want = {0, 4, 0, 4, 0, 4, 0, 4, 0, 4, 0, 4, 0, 4, 12, 4};
        for (int set = 0; set < 16; set++) {
            due("miss(" + set + ")", x.miss(set), want[set]);
        }
        x.lose(0);
        due("those alone: none", x.miss(0), 0);
        due("those alone: 1, 2, 3", x.miss(14), 12);
        due("lost stays", x.about(4), 1);
    }

    private void judge() {
        TwoHalves x = of(PAIR);
        range("n", 1, 4, BAD, n -> x.judge(n, 100));
        long most = 1;
        for (int n = 1; n <= 4; n++) {
            most *= 1000;
            due("row of -1", x.judge(n, -1), BAD);
            due("row of 0", x.judge(n, 0), 0);
            due("row of 3 n figures", x.judge(n, most - 1), 0);
            due("one more", x.judge(n, most), BAD);
            due("row low", x.judge(n, Long.MIN_VALUE), BAD);
            due("row high", x.judge(n, Long.MAX_VALUE), BAD);
        }
        due("n and row are bad", x.judge(0, -1), BAD);
        due("no doings", x.judge(0, 0), BAD);
        due("none", x.judge(1, 100), NONE);
        due("the last", x.judge(4, 100100100999L), 3);
        x.shift(0);
        due("line 0 is blank without pack 0", x.judge(2, 100400), NONE);
        due("and is so when asked again", x.judge(2, 100400), NONE);
        due("since nothing was done", x.judge(1, 400), 0);
    }

    private void see() {
        TwoHalves x = new TwoHalves();
        range("line", 0, 3, UNKNOWN, line -> x.see(line, 0, 0));
        due("four", x.unsee(), 4);
        range("dot", 0, 3, UNKNOWN, dot -> x.see(0, dot, 0));
        due("four again", x.unsee(), 4);
        range("v", 0, 19, BAD, v -> x.see(0, 0, v));
        due("the fifth", x.see(3, 3, 19), 5);
        due("the sixth", x.see(3, 3, 19), 6);
        due("the seventh", x.see(3, 3, 19), FULL);
        due("unknown and full", x.see(4, 0, 0), UNKNOWN);
        due("bad and full", x.see(0, 0, 20), BAD);
        due("six", x.about(13), 6);
        TwoHalves y = of(PAIR);
        y.shift(0);
        y.paint(2, 1, 1);
        y.see(2, 1, 1);
        due("so if pack 2 is not lost", y.which(), 0x0f0f);
    }

    private void unsee() {
        TwoHalves x = new TwoHalves();
        due("of none", x.unsee(), 0);
        x.see(0, 0, 7);
        due("no set", x.which(), 0);
        due("of one", x.unsee(), 1);
        due("nothing is seen", x.about(13), 0);
        due("all sets", x.which(), 65535);
        for (int i = 0; i < 7; i++) {
            x.see(0, 0, 7);
        }
        due("of six", x.unsee(), 6);
        due("of none again", x.unsee(), 0);
    }

    private void which() {
        TwoHalves x = of(PAIR);
        x.shift(0);
        paintLine(x, 0, 1, 1, 1, 1);
        due("nothing seen", x.which(), 65535);
        x.see(3, 3, 1);
        due("packs 1, 2, 3 lost", x.which(), 1 << 14);
        x.see(0, 0, 1);
        due("the same", x.which(), 1 << 14);
        x.see(1, 0, 0);
        due("no set", x.which(), 0);
        x.unsee();
        x.see(0, 3, 0);
        due("pack 0 lost", x.which(), 0xaaaa);
    }

    // ---- shares, chances

    private void share() {
        TwoHalves x = of(PAIR);
        x.shift(0);
        paintLine(x, 0, 1, 1, 1, 1);
        range("pack, above", 0, 3, UNKNOWN, pack -> x.share(pack, true));
        range("pack, below", 0, 3, UNKNOWN, pack -> x.share(pack, false));
        // pack 0: 4, or 4 - 12 if it comes first; the others take 12 away if they come next to it
        for (int pack = 0; pack < 4; pack++) {
            due("share of " + pack, x.share(pack, true), 1);
            due("share of " + pack + ", below", x.share(pack, false), 1);
        }
        TwoHalves y = of(PAIR);
        y.shift(0);
        paintDown(y, 1, 1, 1, 1);
        // 4 off if all are lost, else 0: the one that comes first takes all away
        due("share of 4 off", y.share(1, true), 1);
        for (int line = 0; line < 4; line++) {
            y.paint(line, 3, 1);
        }
        due("share of 8 off", y.share(2, true), 2);
        due("share of 8 off, below", y.share(2, false), 1);
        TwoHalves z = of(PAIR);
        z.shift(0);
        z.paint(0, 0, 1);
        due("share of 1 off", z.share(3, true), 1);
        due("share of 1 off, below", z.share(3, false), 4);
    }

    private void chance() {
        TwoHalves x = of(PAIR);
        x.shift(0);
        paintLine(x, 0, 1, 1, 1, 1);
        range("m", 0, 9999, BAD, m -> x.chance(m, 5, true));
        range("x", 0, 10, BAD, tenths -> x.chance(0, tenths, true));
        range("m, below", 0, 9999, BAD, m -> x.chance(m, 5, false));
        range("x, below", 0, 10, BAD, tenths -> x.chance(0, tenths, false));
        due("m and x", x.chance(-1, 11, true), BAD);
        // pack 0 came and not all of the others are lost
        int[] above = {1, 8991, 496, 6811, 351, 7, 196, 1971, 61, 271, 0};
        int[] below = {1, 10000, 625, 10000, 625, 16, 625, 10000, 625, 10000, 1};
        for (int tenths = 0; tenths <= 10; tenths++) {
            due("above by " + tenths, x.chance(3, tenths, true), above[tenths]);
            due("below by " + tenths, x.chance(3, tenths, false), below[tenths]);
        }
        due("4 or less", x.chance(4, 5, true), 15);
        due("11 or less", x.chance(11, 5, false), 16);
        due("12 or less", x.chance(12, 5, false), 1);
    }

    private void mean() {
        TwoHalves x = of(PAIR);
        x.shift(0);
        paintLine(x, 0, 1, 1, 1, 1);
        range("x, above", 0, 10, BAD, tenths -> x.mean(tenths, true));
        range("x, below", 0, 10, BAD, tenths -> x.mean(tenths, false));
        // 4 by pack 0 lost, 12 by all others lost alone: 4 * 8 + 12 of 16
        due("above by 5", x.mean(5, true), 11);
        due("below by 5", x.mean(5, false), 4);
        // 4 * 1000 + 12 * 9 of 10000
        due("above by 1", x.mean(1, true), 1027);
        due("below by 1", x.mean(1, false), 2500);
        due("by 0", x.mean(0, true), 0);
        due("by 10", x.mean(10, true), 4);
    }

    private void seed() {
        TwoHalves x = new TwoHalves();
        long[] seeds = {1, -1, Long.MAX_VALUE, Long.MIN_VALUE, 1L << 31, 1L << 32, 0};
        long was = 0;
        for (long seed : seeds) {
            due("what it was", x.seed(seed), was);
            was = seed;
        }
    }

    private void drawn() {
        TwoHalves x = of(PAIR);
        range("m", 1, 20, BAD, x::drawn);
        loseAll(x, 0, 1, 2, 3);
        x.seed(0);
        due("4 of them", x.drawn(4), 7);
        due("refused", x.drawn(0), BAD);
        due("refused too", x.drawn(21), BAD);
        due("the seed behind 4", x.seed(0), 7401132627792533940L);
    }

    // ---- slots

    private void keep() {
        TwoHalves x = of(PAIR);
        range("slot", 0, 1, UNKNOWN, x::keep);
        x.lose(2);
        due("lost", x.keep(0), 4);
        x.lose(0);
        due("lost then", x.keep(1), 5);
        due("kept in 0", x.again(0), 4);
        due("kept in 1", x.again(1), 5);
        x.lose(3);
        due("kept anew", x.keep(0), 13);
        x.lose(3);
        due("as kept anew", x.again(0), 13);
        due("the other stays", x.again(1), 5);
    }

    private void again() {
        TwoHalves x = of("M33i00i11i22");
        range("slot, none kept", 0, 1, UNKNOWN, x::again);
        due("slot 0 at first", x.again(0), LATE);
        due("slot 1 at first", x.again(1), LATE);
        x.paint(1, 2, 2);
        x.lose(3);
        x.shift(0);
        x.change(0, 1);
        x.keep(1);
        due("slot 0 still", x.again(0), LATE);
        due("what is late undoes no acts", x.about(12), 4);
        x.lay(2);
        x.paint(1, 2, 0);
        x.shift(3);
        x.lose(3);
        due("slot 1", x.again(1), 8);
        due("cell of 1", x.cell(0, 0), 1);
        due("row of 0", x.shade(0, 0), 1);
        due("column of 0", x.shade(0, 1), 1);
        due("dot", x.dot(1, 2, false), 2);
        due("shift", x.about(3), 0);
        due("lost", x.about(4), 8);
        due("acts", x.about(12), 0);
        x.lose(3);
        due("it stays kept", x.again(1), 8);
    }
}
