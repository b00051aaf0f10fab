/** For each promise of the document answers worked out by hand, edges and refusals among them. */
public final class PromisesTest {
    private static final int UNKNOWN = -1, BAD = -2, LATE = -3, FULL = -4, NONE = -9;
    private static final int LOW = Integer.MIN_VALUE, HIGH = Integer.MAX_VALUE;

    /** Rows guess 0 and 2, columns 1 and 2. */
    private static final String SQUARE = "M22i00i01i10i11";
    /** The row guesses 0, columns are exact. */
    private static final String PAIR = "M12i00i01";

    private static final Check check = new Check();

    public static void main(String[] args) {
        promise1New();
        promise2Write();
        promise3Wipe();
        promise4Fault();
        promise5Map();
        promise6About();
        promise6BestChange();
        promise6BestShift();
        promise6Band();
        promise7Shade();
        promise8Cell();
        promise9Guess();
        promise10Dot();
        promise10Blank();
        promise11Change();
        promise12Move();
        promise13Lay();
        promise14Paint();
        promise15Shift();
        promise16Lose();
        promise17Undo();
        promise17Forgotten();
        promise17Refused();
        promise18Miss();
        promise19Judge();
        promise19JudgeDone();
        promise19JudgeRefusals();
        promise20See();
        promise21Unsee();
        promise22Which();
        promise23Share();
        promise24Chance();
        promise25Mean();
        promise26Seed();
        promise27Drawn();
        promise28Keep();
        promise29Again();
        check.end("PromisesTest");
    }

    private static void due(String call, long got, long want) {
        check.due(call, got, want);
    }

    private static void write(TwoHalves x, String text) {
        for (int i = 0; i < text.length(); i++) {
            x.write(text.charAt(i));
        }
    }

    private static TwoHalves of(String map) {
        TwoHalves x = new TwoHalves();
        write(x, map);
        due("map() of " + map, x.map(), (map.length() - 3) / 3);
        return x;
    }

    private static void paintLine(TwoHalves x, int line, int... shades) {
        for (int dot = 0; dot < 4; dot++) {
            x.paint(line, dot, shades[dot]);
        }
    }

    /** PAIR with SHIFT 0 and one dot of line 1 that is shade 1. */
    private static TwoHalves spot() {
        TwoHalves x = of(PAIR);
        x.shift(0);
        x.paint(1, 0, 1);
        return x;
    }

    private static void faultDue(String text, int want) {
        TwoHalves x = new TwoHalves();
        write(x, text);
        due("fault() of " + text, x.fault(), want);
        due("map() of " + text, x.map() == LATE ? 1 : 0, want == NONE ? 0 : 1);
    }

    private static void promise1New() {
        TwoHalves x = new TwoHalves();
        int[] first = {1, 1, 0, 1, 0, 0, 0, 0, 0, NONE, 0, 0, 0, 0, 0};
        for (int what = 0; what < first.length; what++) {
            due("new about(" + what + ")", x.about(what), first[what]);
        }
        due("new cell(0, 0)", x.cell(0, 0), NONE);
        due("new cell(1, 0)", x.cell(1, 0), UNKNOWN);
        for (int i = 0; i < 16; i++) {
            due("new dot", x.dot(i / 4, i % 4, false), 0);
            due("new dot out", x.dot(i / 4, i % 4, true), 0);
        }
        due("new seed(0)", x.seed(0), 0);
        due("new undo()", x.undo(), LATE);
        due("new again(0)", x.again(0), LATE);
        due("new again(1)", x.again(1), LATE);
        due("new fault()", x.fault(), 0);
        due("constants", TwoHalves.UNKNOWN * 1000 + TwoHalves.BAD * 100 + TwoHalves.LATE * 10
            + TwoHalves.FULL, -1234);
        due("NONE", TwoHalves.NONE, NONE);
    }

    private static void promise2Write() {
        TwoHalves x = new TwoHalves();
        due("write(-1)", x.write(-1), BAD);
        due("write(256)", x.write(256), BAD);
        due("write(LOW)", x.write(LOW), BAD);
        due("write(HIGH)", x.write(HIGH), BAD);
        due("letters", x.about(14), 0);
        for (int i = 1; i <= 70; i++) {
            due("write", x.write(i == 1 ? 0 : 255), i);
        }
        due("write at 70", x.write(77), FULL);
        due("write(256) at 70", x.write(256), BAD);
        due("letters at 70", x.about(14), 70);
    }

    private static void promise3Wipe() {
        TwoHalves x = new TwoHalves();
        due("wipe() at first", x.wipe(), 0);
        write(x, "M11i00");
        due("wipe()", x.wipe(), 6);
        due("wipe() again", x.wipe(), 0);
        due("letters wiped", x.about(14), 0);
        due("write after wipe", x.write(77), 1);
        for (int i = 0; i < 69; i++) {
            x.write(0);
        }
        due("wipe() of 70", x.wipe(), 70);
    }

    private static void promise4Fault() {
        faultDue("", 0);
        faultDue("m", 0);
        faultDue("i", 0);
        faultDue("M", 1);
        faultDue("M0", 1);
        faultDue("M7", 1);
        faultDue("M6", 2);
        faultDue("M60", 2);
        faultDue("M67", 2);
        faultDue("M11", NONE);
        faultDue("M66", NONE);
        faultDue("M11 ", 3);
        faultDue("M11I", 3);
        faultDue("M11i", 4);
        faultDue("M11i1", 4);
        faultDue("M11ii", 4);
        faultDue("M11i0", 5);
        faultDue("M11i01", 5);
        faultDue("M11i00", NONE);
        faultDue("M11i00i", 6);
        faultDue("M11i00x", 6);
        faultDue("M23i12i11i10i1", 13);
        faultDue("M23i12i11i10i0", 14);
        faultDue("M23i12i12", 8);
        faultDue("M23i13", 5);
        faultDue("M32i22", 5);
        faultDue("M32i21", NONE);
        faultDue("M/", 1);
        faultDue("M6/", 2);
        faultDue("M66i/", 4);
        faultDue("M66i6", 4);
        faultDue("M66i0/", 5);
        faultDue("M66i06", 5);
        faultDue("M66i55", NONE);
        faultDue("M11i00" + (char) 0, 6);
        faultDue("" + (char) 255, 0);
        StringBuilder twenty = new StringBuilder("M64");
        for (int i = 0; i < 20; i++) {
            twenty.append('i').append(i / 4).append(i % 4);
        }
        faultDue(twenty.toString(), NONE);
        faultDue(twenty + "i", 63);
        faultDue(twenty + "i53", 63);
        faultDue(twenty + "1234567", 63);
        TwoHalves x = of(SQUARE);
        x.wipe();
        x.fault();
        due("fault() changes nothing", x.about(2), 4);
    }

    private static void promise5Map() {
        TwoHalves x = of(SQUARE);
        paintLine(x, 0, 1, 2, 3, 1);
        x.shift(3);
        x.lose(2);
        x.see(0, 0, 5);
        x.seed(9);
        x.keep(0);
        x.keep(1);
        x.write('i');
        due("map() with a fault", x.map(), LATE);
        due("shift stays", x.about(3), 3);
        due("lost stays", x.about(4), 4);
        due("dot stays", x.dot(0, 1, false), 2);
        due("acts stay", x.about(12), 6);
        due("kept stays", x.again(1), 4);
        x.undo();
        x.lose(1);
        x.wipe();
        write(x, "M36i25");
        due("map()", x.map(), 1);
        due("r", x.about(0), 3);
        due("c", x.about(1), 6);
        due("cell", x.cell(2, 5), 0);
        due("cell of before", x.cell(0, 0), NONE);
        due("shift new", x.about(3), 1);
        due("lost new", x.about(4), 0);
        due("dots new", x.shade(0, 2), 16);
        due("acts new", x.about(12), 0);
        due("undo new", x.undo(), LATE);
        due("slot 0 gone", x.again(0), LATE);
        due("slot 1 gone", x.again(1), LATE);
        due("text stays", x.about(14), 6);
        due("seen stays", x.about(13), 1);
        due("seed stays", x.seed(0), 9);
        due("map() twice", x.map(), 1);
        x.wipe();
        write(x, "M66");
        due("map() without shades", x.map(), 0);
        due("shades gone", x.cell(2, 5), NONE);
        mapAfterAsking();
    }

    /** What is asked is tried somewhere inside, and none of that may come into the next map. */
    private static void mapAfterAsking() {
        TwoHalves x = of(PAIR);
        x.paint(1, 2, 1);
        x.shift(3);
        x.lose(3);
        due("out", x.dot(1, 2, true), 1);
        due("judged", x.judge(2, 103600), NONE);
        due("drawn", x.drawn(1) >= 0 ? 1 : 0, 1);
        due("best change", x.about(9), NONE);
        due("map() of the same text", x.map(), 2);
        due("shift", x.about(3), 1);
        due("lost", x.about(4), 0);
        due("dots", x.shade(0, 2), 16);
        x.paint(1, 2, 1);
        due("out again", x.dot(1, 2, true), 1);
        x.wipe();
        write(x, "M11");
        due("map() without shades", x.map(), 0);
        due("nothing comes out", x.dot(1, 2, true), 0);
        due("no miss", x.about(6), 0);
    }

    private static void promise6About() {
        TwoHalves x = of(SQUARE);
        paintLine(x, 0, 0, 1, 2, 3);
        x.lose(0);
        x.lose(3);
        x.see(1, 1, 1);
        int[] want = {2, 2, 4, 1, 9, 1, 18, 2, 4, NONE, 1, 1, 6, 1, 15};
        for (int what = 0; what < want.length; what++) {
            due("about(" + what + ")", x.about(what), want[what]);
        }
        due("about(15)", x.about(15), BAD);
        due("about(-1)", x.about(-1), BAD);
        due("about(LOW)", x.about(LOW), BAD);
        due("about(HIGH)", x.about(HIGH), BAD);
    }

    private static void promise6BestChange() {
        TwoHalves x = of("M41i00i10i20i30");
        due("rows are exact", x.about(7), 0);
        due("no change is better", x.about(9), NONE);
        // rows {0, 2} and {1, 3}, columns {0, 1} and {2, 3}: what rows gain columns lose
        x = of("M24i00i10i01i11");
        due("side 0", x.about(7), 4);
        due("side 1", x.about(8), 2);
        due("nothing is better in sum", x.about(9), NONE);
        // the same rows, columns exact: rows {0, 1} and {2, 3} by 1 and 2, or by 0 and 3
        x = of("M24i00i11i02i13");
        due("side 0 apart", x.about(7), 4);
        due("side 1 apart", x.about(8), 0);
        due("of like ones the least", x.about(9), 3);
        due("told best change", x.change(0, 3), 2);
        due("it is best then", x.about(9), NONE);
        x.undo();
        due("the other is as good", x.change(1, 2), 2);
        x = of("M11i00");
        due("one shade", x.about(9), NONE);
        // rows {0, 1, 3} and {2, 4, 5}, columns exact
        x = of("M26i00i01i12i03i14i15");
        due("shades next to each other", x.about(9), 203);
        due("they are changed", x.change(2, 3), 4);
        due("by where shades are now", x.about(9), NONE);
        x.undo();
        due("by where shades are again", x.about(9), 203);
        due("worse", x.change(0, 5), 16);
        due("another is best then", x.about(9), 104);
    }

    private static void promise6BestShift() {
        TwoHalves x = of(PAIR);
        // all shades 1: half 0 alone tells 0, half 1 alone tells 1; a blank line is told by others
        for (int line = 0; line < 4; line++) {
            paintLine(x, line, 1, 1, 1, 1);
        }
        due("shift 0 loses nothing", x.about(10), 0);
        x.lose(3);
        x.shift(2);
        due("lost and shift set aside", x.about(10), 0);
        // line 1 is unlike both others next to it, and its columns tell it whole
        x = of("M13i00i01i02");
        paintLine(x, 1, 2, 2, 2, 2);
        // shift 0: pack 1 lost alone: 16; shift 1: pack 0: line 1 by row (1): 4
        due("shift 1 is less", x.about(10), 1);
        x = new TwoHalves();
        due("without shades", x.about(10), 0);
    }

    private static void promise6Band() {
        due("band of one", of("M11i00").about(11), 0);
        due("band of none", of("M66").about(11), 0);
        due("band of a diagonal", of("M33i00i01i02").about(11), 0);
        due("band of one more", of("M33i00i01i02i10").about(11), 1);
        due("band of seven", of("M33i00i01i02i10i11i12i20").about(11), 1);
        due("band of eight", of("M33i00i01i02i10i11i12i20i21").about(11), 2);
        due("band of a long row", of("M16i00i01i02i03i04i05").about(11), 5);
        due("band of a part of it", of("M16i00i01i02i05").about(11), 3);
        due("band of a long column", of("M61i00i10i20i30i50").about(11), 4);
    }

    private static void promise7Shade() {
        TwoHalves x = of("M23i12i01i10");
        due("row of 0", x.shade(0, 0), 1);
        due("column of 0", x.shade(0, 1), 2);
        due("row of 1", x.shade(1, 0), 0);
        due("column of 1", x.shade(1, 1), 1);
        due("column of 2", x.shade(2, 1), 0);
        paintLine(x, 2, 2, 1, 2, 0);
        due("0 in the picture", x.shade(0, 2), 13);
        due("1 in the picture", x.shade(1, 2), 1);
        due("2 in the picture", x.shade(2, 2), 2);
        x.lose(2);
        x.lose(1);
        due("not by what comes out", x.shade(2, 2), 2);
        due("shade(3, 0)", x.shade(3, 0), UNKNOWN);
        due("shade(-1, 0)", x.shade(-1, 0), UNKNOWN);
        due("shade(20, 0)", x.shade(20, 0), UNKNOWN);
        due("shade(HIGH, 0)", x.shade(HIGH, 0), UNKNOWN);
        due("shade(LOW, 9)", x.shade(LOW, 9), UNKNOWN);
        due("shade(0, 3)", x.shade(0, 3), BAD);
        due("shade(0, -1)", x.shade(0, -1), BAD);
        due("shade(3, 3)", x.shade(3, 3), UNKNOWN);
    }

    private static void promise8Cell() {
        TwoHalves x = of("M23i12i01i10");
        due("cell(1, 2)", x.cell(1, 2), 0);
        due("cell(0, 1)", x.cell(0, 1), 1);
        due("cell(1, 0)", x.cell(1, 0), 2);
        due("cell(0, 0)", x.cell(0, 0), NONE);
        due("cell(1, 1)", x.cell(1, 1), NONE);
        due("cell(2, 0)", x.cell(2, 0), UNKNOWN);
        due("cell(0, 3)", x.cell(0, 3), UNKNOWN);
        due("cell(-1, 0)", x.cell(-1, 0), UNKNOWN);
        due("cell(0, -1)", x.cell(0, -1), UNKNOWN);
        due("cell(HIGH, LOW)", x.cell(HIGH, LOW), UNKNOWN);
    }

    private static void promise9Guess() {
        TwoHalves x = of(SQUARE);
        due("row 0, of like ones the least", x.guess(0, 0), 0);
        due("row 1", x.guess(0, 1), 2);
        due("column 0, a shade of another column", x.guess(1, 0), 1);
        due("column 1", x.guess(1, 1), 2);
        paintLine(x, 0, 3, 3, 3, 3);
        due("not by how often", x.guess(0, 1), 2);
        due("guess(-1, 0)", x.guess(-1, 0), BAD);
        due("guess(2, 0)", x.guess(2, 0), BAD);
        due("guess(2, 2): half first", x.guess(2, 2), BAD);
        due("guess(0, 2)", x.guess(0, 2), UNKNOWN);
        due("guess(1, 2)", x.guess(1, 2), UNKNOWN);
        due("guess(0, -1)", x.guess(0, -1), UNKNOWN);
        due("guess(1, HIGH)", x.guess(1, HIGH), UNKNOWN);
        x = of("M36i00i01i05i20");
        due("empty row", x.guess(0, 1), NONE);
        due("empty column", x.guess(1, 3), NONE);
        due("row of 0, 1, 2", x.guess(0, 0), 1);
        due("column of 0 and 3", x.guess(1, 0), 1);
        due("row 3 of 3", x.guess(0, 3), UNKNOWN);
        due("column 5 of 6", x.guess(1, 5), 2);
        // 0, 1, 3: the mean is 4/3
        due("a third above", of("M22i00i01i10").guess(0, 0), 0);
        x = of("M32i00i10i01i20");
        due("0, 1, 3", x.guess(1, 0), 1);
        // 0, 1, 4: 5/3
        due("0, 1, 4", of("M52i00i10i01i11i20").guess(1, 0), 2);
    }

    private static void promise10Dot() {
        TwoHalves x = of(SQUARE);
        paintLine(x, 0, 0, 1, 2, 3);
        paintLine(x, 1, 3, 2, 1, 0);
        x.lose(0);
        int[] byColumns = {1, 2, 1, 2};
        int[] byRows = {2, 2, 0, 0};
        for (int dot = 0; dot < 4; dot++) {
            due("line 0 as it is", x.dot(0, dot, false), dot);
            due("line 0 by columns", x.dot(0, dot, true), byColumns[dot]);
            due("line 1 by rows", x.dot(1, dot, true), byRows[dot]);
            due("line 1 as it is", x.dot(1, dot, false), 3 - dot);
            due("line 2 came", x.dot(2, dot, true), 0);
        }
        x.shift(3);
        due("line 3 by rows", x.dot(3, 0, true), 0);
        due("line 1 came", x.dot(1, 0, true), 3);
        due("dot(4, 0)", x.dot(4, 0, false), UNKNOWN);
        due("dot(0, 4)", x.dot(0, 4, true), UNKNOWN);
        due("dot(-1, 0)", x.dot(-1, 0, true), UNKNOWN);
        due("dot(0, -1)", x.dot(0, -1, false), UNKNOWN);
        due("dot(HIGH, LOW)", x.dot(HIGH, LOW, false), UNKNOWN);
    }

    private static void promise10Blank() {
        TwoHalves x = of(SQUARE);
        x.shift(0);
        paintLine(x, 0, 0, 1, 2, 3);
        paintLine(x, 1, 2, 2, 2, 2);
        paintLine(x, 3, 3, 3, 3, 0);
        x.lose(1);
        x.lose(2);
        int[] half = {1, 2, 2, 1};
        for (int dot = 0; dot < 4; dot++) {
            due("line 1 between 0 and 3", x.dot(1, dot, true), half[dot]);
            due("line 2 between 0 and 3", x.dot(2, dot, true), half[dot]);
        }
        x.lose(0);
        due("line 0 by down alone", x.dot(0, 0, true), 3);
        due("blank 0, 1, 2", x.about(5), 7);
        x.lose(3);
        due("all blank", x.dot(3, 1, true), 0);
        x.lose(0);
        due("line 3 by up alone", x.dot(3, 2, true), 2);
        x.lose(1);
        due("line 3 by the nearest up", x.dot(3, 1, true), 2);
        // what came out by a guess is up of others: line 0 by rows (0, 0, 2, 2), line 1 is blank
        x = of(SQUARE);
        paintLine(x, 0, 0, 1, 2, 3);
        paintLine(x, 2, 3, 3, 3, 3);
        x.lose(0);
        x.lose(1);
        due("line 1 is blank", x.about(5), 2);
        int[] between = {1, 2, 1, 2};
        for (int dot = 0; dot < 4; dot++) {
            // up by columns is 1, 2, 1, 2; down by rows is 2
            due("between guesses", x.dot(1, dot, true), (between[dot] + 2) / 2);
        }
    }

    private static void promise11Change() {
        TwoHalves x = of(SQUARE);
        x.paint(0, 0, 1);
        due("change(0, 1)", x.change(0, 1), 8);
        due("row stays", x.cell(0, 0), 1);
        due("other cell", x.cell(0, 1), 0);
        due("side 0", x.about(7), 2);
        due("side 1", x.about(8), 6);
        due("the picture stays", x.dot(0, 0, false), 1);
        due("an act", x.about(12), 2);
        due("change(3, 0)", x.change(3, 0), 10);
        due("change(0, 0)", x.change(0, 0), LATE);
        due("change(4, 0)", x.change(4, 0), UNKNOWN);
        due("change(0, 4)", x.change(0, 4), UNKNOWN);
        due("change(4, 4)", x.change(4, 4), UNKNOWN);
        due("change(-1, -1)", x.change(-1, -1), UNKNOWN);
        due("change(LOW, HIGH)", x.change(LOW, HIGH), UNKNOWN);
        due("acts", x.about(12), 3);
    }

    private static void promise12Move() {
        TwoHalves x = of("M23i00i01i12");
        x.paint(3, 3, 2);
        // row 0: 0, 1, 2: 2; columns are exact
        due("move(2, 0, 2)", x.move(2, 0, 2), 2);
        due("there", x.cell(0, 2), 2);
        due("gone", x.cell(1, 2), NONE);
        due("the picture stays", x.dot(3, 3, false), 2);
        due("its own cell", x.move(2, 0, 2), LATE);
        due("another's cell", x.move(2, 0, 0), LATE);
        due("no shade", x.move(3, 0, 0), UNKNOWN);
        due("no row", x.move(2, 2, 0), UNKNOWN);
        due("no column", x.move(2, 1, 3), UNKNOWN);
        due("nothing", x.move(-1, -1, -1), UNKNOWN);
        due("low row", x.move(0, LOW, 0), UNKNOWN);
        due("high column", x.move(0, 1, HIGH), UNKNOWN);
        due("acts", x.about(12), 2);
        // row 0: 1, 2: 1, row 1: 0; column 2: 0 and 2: 2
        due("move(0, 1, 2)", x.move(0, 1, 2), 3);
    }

    private static void promise13Lay() {
        TwoHalves x = of("M33i22i21i20i12i11i10i02");
        x.paint(0, 0, 6);
        due("lay(1)", x.lay(1), 16);
        int[] rows = {0, 0, 1, 1, 1, 2, 2};
        int[] columns = {0, 1, 0, 1, 2, 1, 2};
        for (int s = 0; s < 7; s++) {
            due("laid row of " + s, x.shade(s, 0), rows[s]);
            due("laid column of " + s, x.shade(s, 1), columns[s]);
        }
        due("the picture stays", x.dot(0, 0, false), 6);
        due("lay(0)", x.lay(0), LATE);
        due("lay(-1)", x.lay(-1), BAD);
        due("lay(6)", x.lay(6), BAD);
        due("lay(HIGH)", x.lay(HIGH), BAD);
        x.lay(2);
        due("by row among like ones", x.cell(0, 2), 3);
        due("then the next row", x.cell(1, 1), 4);
        due("then the last", x.cell(2, 0), 5);
        x.lay(5);
        due("wider than the table", x.cell(2, 0), 5);
        due("acts", x.about(12), 4);
        x = of("M13i02i01");
        due("a row by 0", x.lay(0), LATE);
        due("a row by 1", x.lay(1), 1);
        due("a row laid", x.cell(0, 0), 0);
        due("lay without shades", new TwoHalves().lay(0), 0);
    }

    private static void promise14Paint() {
        TwoHalves x = of(PAIR);
        due("paint(0, 0, 1)", x.paint(0, 0, 1), 0);
        due("paint(0, 0, 0)", x.paint(0, 0, 0), 1);
        due("paint the same", x.paint(0, 0, 0), 0);
        due("paint(3, 2, 1)", x.paint(3, 2, 1), 0);
        due("painted there", x.dot(3, 2, false), 1);
        due("not there", x.dot(2, 3, false), 0);
        due("acts", x.about(12), 4);
        due("paint(4, 0, 0)", x.paint(4, 0, 0), UNKNOWN);
        due("paint(0, 4, 0)", x.paint(0, 4, 0), UNKNOWN);
        due("paint(0, 0, 2)", x.paint(0, 0, 2), UNKNOWN);
        due("paint(0, 0, -1)", x.paint(0, 0, -1), UNKNOWN);
        due("paint(LOW, HIGH, 0)", x.paint(LOW, HIGH, 0), UNKNOWN);
        due("acts stay", x.about(12), 4);
        due("paint without shades", new TwoHalves().paint(0, 0, 0), UNKNOWN);
    }

    private static void promise15Shift() {
        TwoHalves x = new TwoHalves();
        due("shift(3)", x.shift(3), 1);
        due("shift(0)", x.shift(0), 3);
        due("shift(0) again", x.shift(0), 0);
        due("shift(4)", x.shift(4), BAD);
        due("shift(-1)", x.shift(-1), BAD);
        due("shift(HIGH)", x.shift(HIGH), BAD);
        due("shift is", x.about(3), 0);
        due("acts", x.about(12), 3);
        x.lose(1);
        x.lose(3);
        int[] blank = {10, 0, 10, 0};
        for (int v = 0; v < 4; v++) {
            x.shift(v);
            due("blank by shift " + v, x.about(5), blank[v]);
        }
    }

    private static void promise16Lose() {
        TwoHalves x = new TwoHalves();
        due("lose(0)", x.lose(0), 1);
        due("lose(3)", x.lose(3), 1);
        due("lost", x.about(4), 9);
        due("blank by shift 1", x.about(5), 1);
        due("found", x.lose(0), 0);
        due("lost one", x.about(4), 8);
        due("lose(4)", x.lose(4), UNKNOWN);
        due("lose(-1)", x.lose(-1), UNKNOWN);
        due("lose(LOW)", x.lose(LOW), UNKNOWN);
        due("acts", x.about(12), 3);
    }

    private static void promise17Undo() {
        TwoHalves x = of("M33i00i11i22");
        x.change(0, 1);
        x.move(2, 0, 2);
        x.lay(1);
        x.paint(1, 1, 2);
        x.shift(2);
        x.lose(1);
        x.lose(1);
        due("find undone", x.undo(), 6);
        due("lost again", x.about(4), 2);
        due("lose undone", x.undo(), 5);
        due("none lost", x.about(4), 0);
        due("shift undone", x.undo(), 4);
        due("shift", x.about(3), 1);
        due("paint undone", x.undo(), 3);
        due("dot", x.dot(1, 1, false), 0);
        due("lay undone", x.undo(), 2);
        due("moved", x.cell(0, 2), 2);
        due("changed", x.cell(1, 1), 0);
        due("move undone", x.undo(), 1);
        due("back", x.cell(2, 2), 2);
        due("change undone", x.undo(), 0);
        due("first", x.cell(0, 0), 0);
        due("no more", x.undo(), LATE);
        x.see(0, 0, 0);
        x.seed(4);
        x.shift(0);
        x.write('i');
        due("undo the shift alone", x.undo(), 0);
        due("seen stays", x.about(13), 1);
        due("text stays", x.about(14), 13);
        due("seed stays", x.seed(0), 4);
    }

    private static void promise17Forgotten() {
        TwoHalves x = of("M66i00i01i02i03i04i05i10i11i12i13i14i15i20i21i22i23i24i25");
        for (int s = 1; s <= 16; s++) {
            x.paint(0, 0, s);
            due("acts", x.about(12), Math.min(s, 14));
        }
        for (int s = 15; s >= 2; s--) {
            due("undo", x.undo(), s - 2);
            due("dot", x.dot(0, 0, false), s);
        }
        due("the first two are forgotten", x.undo(), LATE);
        due("dot stays", x.dot(0, 0, false), 2);
        x.paint(0, 0, 9);
        due("undo anew", x.undo(), 0);
        due("dot again", x.dot(0, 0, false), 2);
    }

    private static void promise17Refused() {
        TwoHalves x = of(SQUARE);
        x.shift(2);
        x.change(0, 0);
        x.change(0, 9);
        x.move(0, 0, 0);
        x.lay(0);
        x.lay(9);
        x.paint(0, 0, 4);
        x.shift(4);
        x.lose(4);
        x.judge(1, 203);
        x.miss(3);
        due("refused and asked are no acts", x.about(12), 1);
        due("undo", x.undo(), 0);
        due("shift back", x.about(3), 1);
    }

    private static void promise18Miss() {
        TwoHalves x = spot();
        int[] want = {0, 1, 1, 1, 0, 1, 1, 1, 0, 1, 1, 1, 2, 3, 1, 1};
        for (int set = 0; set < 16; set++) {
            due("miss(" + set + ")", x.miss(set), want[set]);
        }
        x.lose(0);
        due("those alone", x.miss(0), 0);
        due("lost stays", x.about(4), 1);
        x.shift(1);
        due("by the shift that is", x.miss(1), 1);
        x.lose(0);
        due("miss(-1)", x.miss(-1), BAD);
        due("miss(16)", x.miss(16), BAD);
        due("miss(LOW)", x.miss(LOW), BAD);
        TwoHalves y = of(SQUARE);
        paintLine(y, 0, 0, 1, 2, 3);
        due("squares", y.miss(1), 4);
        due("squares of a blank line", y.miss(9), 18);
        due("all lost", y.miss(15), 14);
    }

    private static void promise19Judge() {
        TwoHalves x = spot();
        due("lost", x.judge(1, 103), NONE);
        due("no pack", x.judge(1, 104), 0);
        due("not 0", x.judge(1, 113), 0);
        due("shift", x.judge(1, 203), NONE);
        due("no shift", x.judge(1, 204), 0);
        due("shift not 0", x.judge(1, 293), 0);
        due("right", x.judge(1, 333), NONE);
        due("no line", x.judge(1, 340), 0);
        due("no dot", x.judge(1, 304), 0);
        due("not blank", x.judge(1, 401), 0);
        due("no line to be blank", x.judge(1, 404), 0);
        due("blank", x.judge(2, 101401), NONE);
        due("the first line is blank", x.judge(2, 100400), NONE);
        due("the last line is blank", x.judge(2, 103403), NONE);
        due("blank not 0", x.judge(2, 101411), 1);
        due("another is blank", x.judge(2, 101402), 1);
        due("not right then", x.judge(2, 101310), 1);
        due("right beside", x.judge(2, 101311), NONE);
        due("miss is 1", x.judge(2, 101601), NONE);
        due("miss is not 0", x.judge(2, 101600), 1);
        due("changed", x.judge(1, 501), NONE);
        due("changed back", x.judge(1, 510), NONE);
        due("like shades", x.judge(1, 511), 0);
        due("no shade", x.judge(1, 502), 0);
        due("no first shade", x.judge(1, 520), 0);
        due("kind 0", x.judge(1, 0), 0);
        due("kind 7", x.judge(1, 700), 0);
        due("kind 8", x.judge(1, 801), 0);
        due("kind 9", x.judge(1, 999), 0);
        due("told short: 000 ahead", x.judge(2, 101), 0);
        due("miss of 99", x.judge(1, 699), NONE);
    }

    private static void promise19JudgeDone() {
        TwoHalves x = spot();
        due("lost, found", x.judge(3, 101101401), 2);
        due("lost, found, right", x.judge(3, 101101310), NONE);
        due("shift is done", x.judge(3, 201101401), 2);
        due("two packs by shift 1", x.judge(4, 201101100401L), NONE);
        due("the first that is not so", x.judge(4, 101401310401L), 2);
        due("the highest is the first", x.judge(4, 999101101101L), 0);
        due("the last", x.judge(4, 101101101999L), 3);
        due("nothing is changed", x.about(4) * 10 + x.about(3), 0);
        due("no acts", x.about(12), 2);
        TwoHalves y = of(SQUARE);
        paintLine(y, 0, 0, 1, 2, 3);
        // pack 0 lost: line 0 by columns; with 0 and 1 changed the columns guess 1 and 1
        due("right by a guess", y.judge(2, 100301), 1);
        due("right by a change", y.judge(3, 501100301), NONE);
        due("miss by a change", y.judge(3, 501100606), NONE);
        due("miss by a change is not less", y.judge(3, 501100605), 2);
        due("cells stay", y.cell(0, 0), 0);
        y.lose(0);
        due("found when it is lost", y.judge(2, 100600), NONE);
        due("goes by what is lost now", y.judge(1, 603), 0);
        due("goes by what is lost now, enough", y.judge(1, 604), NONE);
    }

    private static void promise19JudgeRefusals() {
        TwoHalves x = spot();
        due("n 0", x.judge(0, 0), BAD);
        due("n 5", x.judge(5, 101), BAD);
        due("n low", x.judge(LOW, 101), BAD);
        due("n high", x.judge(HIGH, 101), BAD);
        due("row -1", x.judge(1, -1), BAD);
        due("row low", x.judge(4, Long.MIN_VALUE), BAD);
        due("row high", x.judge(4, Long.MAX_VALUE), BAD);
        due("row of 4 figures", x.judge(1, 1000), BAD);
        due("row of 7 figures", x.judge(2, 1000000), BAD);
        due("row of 10 figures", x.judge(3, 1000000000L), BAD);
        due("row of 13 figures", x.judge(4, 1000000000000L), BAD);
        due("row of 12 figures", x.judge(4, 999999999999L), 0);
    }

    private static void promise20See() {
        TwoHalves x = new TwoHalves();
        due("see(0, 0, 0)", x.see(0, 0, 0), 1);
        due("see(3, 3, 19)", x.see(3, 3, 19), 2);
        due("the same once more", x.see(3, 3, 19), 3);
        due("see(4, 0, 0)", x.see(4, 0, 0), UNKNOWN);
        due("see(0, 4, 20)", x.see(0, 4, 20), UNKNOWN);
        due("see(-1, 0, 0)", x.see(-1, 0, 0), UNKNOWN);
        due("see(0, 0, 20)", x.see(0, 0, 20), BAD);
        due("see(0, 0, -1)", x.see(0, 0, -1), BAD);
        x.see(0, 1, 0);
        x.see(0, 2, 0);
        due("the sixth", x.see(0, 3, 0), 6);
        due("the seventh", x.see(0, 3, 0), FULL);
        due("bad ahead of full", x.see(0, 3, 20), BAD);
        due("unknown ahead of full", x.see(0, 4, 0), UNKNOWN);
        due("six", x.about(13), 6);
        due("no act", x.about(12), 0);
    }

    private static void promise21Unsee() {
        TwoHalves x = new TwoHalves();
        due("unsee() at first", x.unsee(), 0);
        x.see(0, 0, 1);
        x.see(0, 0, 2);
        due("unsee()", x.unsee(), 2);
        due("nothing is seen", x.about(13), 0);
        due("all sets again", x.which(), 65535);
        due("see after it", x.see(1, 1, 1), 1);
    }

    private static void promise22Which() {
        TwoHalves x = spot();
        due("nothing seen", x.which(), 65535);
        x.see(1, 0, 1);
        due("pack 1 came", x.which(), 0x3333);
        x.see(0, 0, 1);
        due("and pack 0 was lost", x.which(), 0x2222);
        x.lose(1);
        due("how it is now set aside", x.which(), 0x2222);
        x.paint(1, 0, 0);
        due("as all else is when asked", x.which(), 0);
        x.undo();
        due("and then again", x.which(), 0x2222);
        x.see(3, 0, 1);
        due("2 and 3 lost too", x.which(), 1 << 13);
        due("lost stays", x.about(4), 2);
        x.unsee();
        x.see(0, 0, 0);
        x.see(0, 0, 1);
        due("none", x.which(), 0);
        TwoHalves y = of(SQUARE);
        paintLine(y, 0, 1, 0, 0, 0);
        y.see(0, 0, 2);
        // by columns it is 2: pack 0 is lost, pack 3 is not
        due("by a guess", y.which(), 0x00aa);
        y.unsee();
        y.paint(2, 3, 3);
        y.see(2, 3, 3);
        // it comes out by both alone: packs 1 and 2 came
        due("of the last dot", y.which(), 0x0303);
    }

    private static void promise23Share() {
        TwoHalves x = spot();
        int[] above = {1, -1, 1, 1};
        int[] below = {2, 6, 3, 3};
        for (int pack = 0; pack < 4; pack++) {
            due("share of " + pack + " above", x.share(pack, true), above[pack]);
            due("share of " + pack + " below", x.share(pack, false), below[pack]);
        }
        x.lose(2);
        due("all lost at first, whatever is now", x.share(1, true), -1);
        due("lost stays", x.about(4), 4);
        due("share(4)", x.share(4, true), UNKNOWN);
        due("share(-1)", x.share(-1, false), UNKNOWN);
        due("share(HIGH)", x.share(HIGH, false), UNKNOWN);
        TwoHalves y = new TwoHalves();
        due("nothing above", y.share(3, true), 0);
        due("nothing below", y.share(3, false), 1);
    }

    private static void chanceDue(TwoHalves x, int m, int tenths, int above, int below) {
        String call = "chance(" + m + ", " + tenths + ")";
        due(call + " above", x.chance(m, tenths, true), above);
        due(call + " below", x.chance(m, tenths, false), below);
    }

    private static void promise24Chance() {
        TwoHalves x = spot();
        x.lose(1);
        chanceDue(x, 0, 5, 3, 16);
        chanceDue(x, 1, 5, 7, 8);
        chanceDue(x, 2, 5, 15, 16);
        chanceDue(x, 3, 5, 1, 1);
        chanceDue(x, 9999, 5, 1, 1);
        chanceDue(x, 0, 2, 384, 625);
        chanceDue(x, 0, 1, 8019, 10000);
        chanceDue(x, 0, 0, 1, 1);
        chanceDue(x, 0, 10, 0, 1);
        chanceDue(x, 1, 10, 1, 1);
        due("lost stays", x.about(4), 2);
        due("chance(-1, 5)", x.chance(-1, 5, true), BAD);
        due("chance(10000, 5)", x.chance(10000, 5, false), BAD);
        due("chance(0, -1)", x.chance(0, -1, true), BAD);
        due("chance(0, 11)", x.chance(0, 11, false), BAD);
        due("chance(LOW, HIGH)", x.chance(LOW, HIGH, true), BAD);
    }

    private static void meanDue(TwoHalves x, int tenths, int above, int below) {
        due("mean(" + tenths + ") above", x.mean(tenths, true), above);
        due("mean(" + tenths + ") below", x.mean(tenths, false), below);
    }

    private static void promise25Mean() {
        TwoHalves x = spot();
        x.lose(0);
        meanDue(x, 5, 1, 1);
        meanDue(x, 1, 26, 125);
        meanDue(x, 0, 0, 1);
        meanDue(x, 10, 1, 1);
        due("mean(-1)", x.mean(-1, true), BAD);
        due("mean(11)", x.mean(11, false), BAD);
        due("mean(LOW)", x.mean(LOW, false), BAD);
        due("lost stays", x.about(4), 1);
    }

    private static void promise26Seed() {
        TwoHalves x = new TwoHalves();
        due("seed(5)", x.seed(5), 0);
        due("seed(low)", x.seed(Long.MIN_VALUE), 5);
        due("seed(high)", x.seed(Long.MAX_VALUE), Long.MIN_VALUE);
        due("seed(0)", x.seed(0), Long.MAX_VALUE);
        x.drawn(1);
        due("drawn without shades", x.seed(0), 1442695040888963407L);
        x.drawn(3);
        due("drawn thrice", x.seed(1), -7280499659394350823L);
    }

    private static void promise27Drawn() {
        TwoHalves x = of(PAIR);
        for (int pack = 0; pack < 4; pack++) {
            x.lose(pack);
        }
        // dots (3, 3), (2, 0), (0, 1), (1, 0) are 1, 0, 1, 1; all come out as 0
        due("drawn(4)", x.drawn(4), 7);
        due("the seed then", x.seed(0), 7401132627792533940L);
        due("the picture stays", x.about(6), 0);
        due("no dot is told", x.shade(1, 2), 0);
        due("no act", x.about(12), 4);
        due("drawn(1)", x.drawn(1), 1);
        due("drawn(1) goes on with the seed", x.drawn(1), 0);
        due("drawn(2)", x.drawn(2), 3);
        x.seed(-7);
        // (0, 0) is 0, (0, 1) is 1, (0, 0) is 1
        due("drawn(3) by another seed", x.drawn(3), 3);
        x.seed(0);
        x.lose(3);
        // line 3 comes by its row alone: (3, 3) is off by 1, and line 0 by its column alone
        due("by packs that are lost now", x.drawn(3), 3);
        due("drawn(0)", x.drawn(0), BAD);
        due("drawn(21)", x.drawn(21), BAD);
        due("drawn(LOW)", x.drawn(LOW), BAD);
        due("refused draws nothing", x.seed(0), -7280499659394350823L);
        due("drawn(20)", x.drawn(20) >= 0 ? 1 : 0, 1);
        due("without shades", new TwoHalves().drawn(20), 0);
    }

    private static void promise28Keep() {
        TwoHalves x = of(SQUARE);
        due("keep(0)", x.keep(0), 0);
        x.lose(1);
        x.lose(3);
        due("keep(1)", x.keep(1), 10);
        due("acts stay", x.about(12), 2);
        due("keep(2)", x.keep(2), UNKNOWN);
        due("keep(-1)", x.keep(-1), UNKNOWN);
        due("keep(HIGH)", x.keep(HIGH), UNKNOWN);
        due("again(0)", x.again(0), 0);
        due("again(1)", x.again(1), 10);
        x.lose(1);
        due("keep(1) anew", x.keep(1), 8);
        x.lose(0);
        due("again(1) as kept anew", x.again(1), 8);
    }

    private static void promise29Again() {
        TwoHalves x = of("M33i00i11i22");
        due("again(0) ahead of keep", x.again(0), LATE);
        due("again(2)", x.again(2), UNKNOWN);
        due("again(-1)", x.again(-1), UNKNOWN);
        x.change(0, 2);
        x.paint(2, 1, 1);
        x.shift(3);
        x.lose(2);
        x.keep(1);
        due("the other is not kept", x.again(0), LATE);
        x.lay(1);
        x.paint(2, 1, 2);
        x.paint(0, 0, 1);
        x.shift(0);
        x.lose(2);
        x.lose(0);
        x.seed(3);
        x.see(0, 0, 1);
        x.write('i');
        due("again(1)", x.again(1), 4);
        due("cell", x.cell(2, 2), 0);
        due("cell of 2", x.cell(0, 0), 2);
        due("dot", x.dot(2, 1, false), 1);
        due("other dot", x.dot(0, 0, false), 0);
        due("shift", x.about(3), 3);
        due("lost", x.about(4), 4);
        due("no acts", x.about(12), 0);
        due("no undo", x.undo(), LATE);
        due("seed stays", x.seed(0), 3);
        due("seen stays", x.about(13), 1);
        due("text stays", x.about(14), 13);
        x.shift(1);
        due("kept on", x.again(1), 4);
        due("shift again", x.about(3), 3);
        x.shift(2);
        due("again(0) is late", x.again(0), LATE);
        due("what is refused changes nothing", x.about(12), 1);
    }
}
