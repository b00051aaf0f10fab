import java.io.IOException;

/** The edges that part 1 of the document, its terms, names. */
public final class EdgesOfTermsTest extends Edges {
    EdgesOfTermsTest() {
        says("numbers", "THE TABLE has ROWS 0 .. r less 1 and COLUMNS 0 .. c less 1", this::numbers);
        says("size", "6; 1 at first), so CELLS (ROW, COLUMN).", this::size);
        says("shades", "SHADES are 0, 1, .. (never more than 20; none at first)", this::shades);
        says("cells", "each in a CELL, no two in one.", this::cells);
        says("picture", "THE PICTURE has LINES 0 .. 3 of DOTS 0 .. 3 each;", this::picture);
        says("dotsFirst", "a DOT is a SHADE (0 at first, also where there are no SHADES).",
            this::dotsFirst);
        says("packs", "A PACK k (0 .. 3) holds HALF 0 of LINE k and HALF 1 of the LINE that is left of "
            + "(k and SHIFT, together) by 4;", this::packs);
        says("shift", "SHIFT is 0 .. 3 (1 at first).", this::shift);
        says("lostFirst", "PACKS are LOST or not (not at first).", this::lostFirst);
        says("letters", "THE TEXT is letters (never more than 70).", this::letters);
        says("mapFigures", "A MAP is a TEXT: M, r, c (figures, 1 .. 6),", this::mapFigures);
        says("mapShades", "then SHADES, none or more, each i, a ROW, a COLUMN (a CELL in which none told "
            + "ahead is).", this::mapShades);
        says("noBlanks", "(Without blanks.)", this::noBlanks);
        says("faultPlace", "FAULT: the place (from 0) of the first letter by which THE TEXT can be no MAP, "
            + "whatever came behind it", this::faultPlace);
        says("faultLength", "(its length set aside;", this::faultLength);
        says("faultTwenty", "so an i where 20 are told,", this::faultTwenty);
        says("faultNoCell", "or no CELL is empty;", this::faultNoCell);
        says("faultFullRow", "a ROW that is full;", this::faultFullRow);
        says("faultTaken", "a COLUMN whose CELL there is not empty);", this::faultTaken);
        says("faultEnd", "its length, if it is only not at its end; NONE: none.", this::faultEnd);
        says("guessRange", "GUESS of a ROW: the SHADE g (0 .. how many there are less 1)",
            this::guessRange);
        says("guessLeast", "by which the sum of the squares of (s less g) over all SHADES s in that ROW is "
            + "least; of like ones the least;", this::guessLeast);
        says("guessNone", "NONE: there is none in it.", this::guessNone);
        says("guessColumn", "GUESS of a COLUMN likewise.", this::guessColumn);
        says("sides", "SIDE of HALF 0: the sum over all SHADES s of the square of (s less GUESS of its "
            + "ROW); of HALF 1 that by COLUMNS.", this::sides);
        says("outBoth", "if both of its HALVES are in PACKS that are not LOST: its DOTS.", this::outBoth);
        says("outOne", "If one is: of each DOT the GUESS of its ROW (HALF 0), or COLUMN (HALF 1).",
            this::outOne);
        says("outBlank", "If none is, it is BLANK:", this::outBlank);
        says("upDown", "UP is the next LINE ahead of it that is not BLANK, DOWN the next one behind it;",
            this::upDown);
        says("halfCut", "each DOT is half the sum of what comes out there in both (cut),", this::halfCut);
        says("oneThereIs", "or what comes out in that one that there is;", this::oneThereIs);
        says("neither", "0, if there is neither.", this::neither);
        says("noShades", "Without SHADES all comes out as 0.", this::noShades);
        says("squares", "MISS: the sum over all DOTS of the square of what each is off.", this::squares);
        says("changed", "CHANGED: two unlike SHADES change CELLS.", this::changed);
        says("moved", "MOVED: a SHADE goes to a CELL that is empty.", this::moved);
        says("laidApart", "LAID by b (0 .. 5): CELLS whose ROW and COLUMN are no more than b apart,",
            this::laidApart);
        says("laidOrder", "ordered by ROW and COLUMN together, the least first, of like ones by ROW, the "
            + "least first: SHADE 0 is in the first of them, SHADE 1 in the next one, and so on.",
            this::laidOrder);
        says("actsKinds", "ACTS (CHANGED; MOVED; LAID; a DOT told; SHIFT told anew; a PACK LOST, or found, "
            + "if it was LOST) are a row", this::actsKinds);
        says("actsForgotten", "(never more than 14; if it has 14, the first one is forgotten ahead of the "
            + "next);", this::actsForgotten);
        says("actsUndone", "the last one can be undone.", this::actsUndone);
        says("actsEach", "Each that is not refused is an ACT.", this::actsEach);
    }

    public static void main(String[] args) throws IOException {
        new EdgesOfTermsTest().end();
    }

    // ---- the table, shades, the picture

    private void numbers() {
        TwoHalves x = of("M23");
        int[] rows = {UNKNOWN, NONE, NONE, UNKNOWN};
        for (int row = -1; row <= 2; row++) {
            due("row " + row + " of 2", x.cell(row, 0), rows[row + 1]);
        }
        int[] columns = {UNKNOWN, NONE, NONE, NONE, UNKNOWN};
        for (int column = -1; column <= 3; column++) {
            due("column " + column + " of 3", x.cell(0, column), columns[column + 1]);
        }
        due("guess of row 1", x.guess(0, 1), NONE);
        due("guess of row 2", x.guess(0, 2), UNKNOWN);
        due("guess of column 2", x.guess(1, 2), NONE);
        due("guess of column 3", x.guess(1, 3), UNKNOWN);
    }

    private void size() {
        TwoHalves first = new TwoHalves();
        due("r at first", first.about(0), 1);
        due("c at first", first.about(1), 1);
        due("the only cell at first", first.cell(0, 0), NONE);
        due("no second row at first", first.cell(1, 0), UNKNOWN);
        due("no second column at first", first.cell(0, 1), UNKNOWN);
        for (int size = 0; size <= 7; size++) {
            boolean can = size >= 1 && size <= 6;
            TwoHalves x = of("M" + size + "1");
            due("r of " + size, x.about(0), can ? size : 1);
            TwoHalves y = of("M1" + size);
            due("c of " + size, y.about(1), can ? size : 1);
            due("map of " + size + " rows", x.map(), can ? 0 : LATE);
            due("map of " + size + " columns", y.map(), can ? 0 : LATE);
        }
    }

    private void shades() {
        TwoHalves x = new TwoHalves();
        due("none at first", x.about(2), 0);
        due("shade 0 at first", x.shade(0, 0), UNKNOWN);
        for (int n = 1; n <= 20; n++) {
            TwoHalves y = written(table(6, 6, n));
            due("map of " + n, y.map(), n);
            due("shades of " + n, y.about(2), n);
            due("shade -1 of " + n, y.shade(-1, 0), UNKNOWN);
            due("shade 0 of " + n, y.shade(0, 0), 0);
            due("the last of " + n, y.shade(n - 1, 1), (n - 1) % 6);
            due("one more than " + n, y.shade(n, 0), UNKNOWN);
        }
        due("map of 21", written(table(6, 6, 21)).map(), LATE);
    }

    private void cells() {
        due("two in one", written("M22i01i01").map(), LATE);
        due("two in two", written("M22i01i10").map(), 2);
        TwoHalves x = of("M33i00i11i22i02");
        x.change(0, 3);
        eachInItsOwn(x);
        x.move(1, 2, 0);
        eachInItsOwn(x);
        x.move(1, 0, 0);
        eachInItsOwn(x);
        x.lay(1);
        eachInItsOwn(x);
        x.undo();
        eachInItsOwn(x);
    }

    private void eachInItsOwn(TwoHalves x) {
        int found = 0;
        for (int i = 0; i < 9; i++) {
            found += x.cell(i / 3, i % 3) == NONE ? 0 : 1;
        }
        due("cells that are not empty", found, 4);
        for (int s = 0; s < 4; s++) {
            due("shade in the cell of " + s, x.cell(x.shade(s, 0), x.shade(s, 1)), s);
        }
    }

    private void picture() {
        TwoHalves x = of(PAIR);
        for (int i = -1; i <= 4; i++) {
            boolean there = i >= 0 && i <= 3;
            due("dot 0 of line " + i, x.dot(i, 0, false), there ? 0 : UNKNOWN);
            due("dot " + i + " of line 0", x.dot(0, i, false), there ? 0 : UNKNOWN);
            due("what comes out of line " + i, x.dot(i, 1, true), there ? 0 : UNKNOWN);
            due("what comes out of dot " + i, x.dot(1, i, true), there ? 0 : UNKNOWN);
        }
        for (int i = -1; i <= 4; i++) {
            boolean there = i >= 0 && i <= 3;
            due("paint dot 3 of line " + i, x.paint(i, 3, 1), there ? 0 : UNKNOWN);
            // dot 3 of line 3 has just been painted
            int was = i == 3 ? 1 : 0;
            due("paint dot " + i + " of line 3", x.paint(3, i, 1), there ? was : UNKNOWN);
        }
        due("sixteen dots", x.shade(0, 2) + x.shade(1, 2), 16);
        due("seven of them painted", x.shade(1, 2), 7);
    }

    private void dotsFirst() {
        TwoHalves x = new TwoHalves();
        TwoHalves y = of(PAIR);
        for (int i = 0; i < 16; i++) {
            due("dot without shades", x.dot(i / 4, i % 4, false), 0);
            due("dot at first", y.dot(i / 4, i % 4, false), 0);
        }
        due("no shade to tell", x.paint(0, 0, 0), UNKNOWN);
        due("shade -1", y.paint(0, 0, -1), UNKNOWN);
        due("shade 0", y.paint(0, 0, 0), 0);
        due("shade 1", y.paint(0, 0, 1), 0);
        due("shade 2", y.paint(0, 0, 2), UNKNOWN);
        due("the dot is 1", y.dot(0, 0, false), 1);
    }

    /** Shade 1 of SQUARE is 0 by its row, 2 by its column; a blank line is told by others, so 1. */
    private void packs() {
        for (int shift = 0; shift < 4; shift++) {
            TwoHalves x = of(SQUARE);
            paintDown(x, 1, 1, 1, 1);
            x.shift(shift);
            for (int pack = 0; pack < 4; pack++) {
                x.lose(pack);
                for (int line = 0; line < 4; line++) {
                    int want = 1;
                    if (shift != 0 && line == pack) {
                        want = 2;
                    }
                    if (shift != 0 && line == (pack + shift) % 4) {
                        want = 0;
                    }
                    due("shift " + shift + ", pack " + pack + " lost: line " + line,
                        x.dot(line, 0, true), want);
                }
                x.lose(pack);
            }
            due("pack -1", x.lose(-1), UNKNOWN);
            due("pack 4", x.lose(4), UNKNOWN);
        }
    }

    private void shift() {
        TwoHalves x = new TwoHalves();
        due("at first", x.about(3), 1);
        due("-1", x.shift(-1), BAD);
        due("0", x.shift(0), 1);
        due("0 is told", x.about(3), 0);
        due("3", x.shift(3), 0);
        due("3 is told", x.about(3), 3);
        due("4", x.shift(4), BAD);
        due("3 stays", x.about(3), 3);
    }

    private void lostFirst() {
        TwoHalves x = new TwoHalves();
        due("none at first", x.about(4), 0);
        due("none of a map at first", of(SQUARE).about(4), 0);
        for (int pack = 0; pack < 4; pack++) {
            due("lost", x.lose(pack), 1);
            due("it alone", x.about(4), 1 << pack);
            due("found", x.lose(pack), 0);
            due("none", x.about(4), 0);
        }
    }

    // ---- the text

    private void letters() {
        TwoHalves x = new TwoHalves();
        for (int i = 1; i <= 70; i++) {
            due("letter " + i, x.write('M'), i);
        }
        due("letter 71", x.write('M'), FULL);
        due("70 of them", x.about(14), 70);
        due("70 are wiped", x.wipe(), 70);
    }

    private void faultDue(String text, int want) {
        TwoHalves x = written(text);
        due("fault() of " + text, x.fault(), want);
        due("map() of " + text + " is late", x.map() == LATE ? 1 : 0, want == NONE ? 0 : 1);
    }

    private void mapFigures() {
        faultDue("M11", NONE);
        faultDue("L11", 0);
        faultDue("N11", 0);
        faultDue("m11", 0);
        faultDue("M01", 1);
        faultDue("M61", NONE);
        faultDue("M71", 1);
        faultDue("M10", 2);
        faultDue("M16", NONE);
        faultDue("M17", 2);
        faultDue("M" + (char) ('1' + 64) + "1", 1);
        faultDue("M1" + (char) 1, 2);
        TwoHalves x = of("M26");
        due("r is the first figure", x.about(0), 2);
        due("c is the next one", x.about(1), 6);
    }

    private void mapShades() {
        due("none", written("M23").map(), 0);
        due("one", written("M23i12").map(), 1);
        due("two", written("M23i12i02").map(), 2);
        due("the row comes first", of("M23i12").cell(1, 2), 0);
        faultDue("M23h12", 3);
        faultDue("M23j12", 3);
        faultDue("M23I12", 3);
        faultDue("M23i/2", 4);
        faultDue("M23i02", NONE);
        faultDue("M23i22", 4);
        faultDue("M23i1/", 5);
        faultDue("M23i10", NONE);
        faultDue("M23i13", 5);
        faultDue("M23i12i12", 8);
    }

    private void noBlanks() {
        faultDue(" M11i00", 0);
        faultDue("M 11i00", 1);
        faultDue("M1 1i00", 2);
        faultDue("M11 i00", 3);
        faultDue("M11i 00", 4);
        faultDue("M11i0 0", 5);
        faultDue("M11i00 ", 6);
        faultDue("M11 ", 3);
        faultDue("M11\n", 3);
        faultDue("M11i00", NONE);
    }

    private void faultPlace() {
        faultDue("x", 0);
        faultDue("xM11", 0);
        faultDue("Mx1", 1);
        faultDue("M99x", 1);
        faultDue("M19x", 2);
        faultDue("M11x", 3);
        faultDue("M11xi00", 3);
        faultDue("M11i00MM", 6);
        faultDue("M33i00i33", 7);
        faultDue("M33i00i03", 8);
        TwoHalves x = written("M1");
        due("it can still be one", x.fault(), 2);
        x.write('9');
        due("it can be none", x.fault(), 2);
        x.write('1');
        due("whatever came behind it", x.fault(), 2);
    }

    /** A map has 63 letters at most; up to there no length is at fault, and behind it each letter. */
    private void faultLength() {
        String nineteen = table(6, 6, 19);
        faultDue(nineteen, NONE);
        faultDue(nineteen + "i", 61);
        faultDue(nineteen + "i5", 62);
        faultDue(nineteen + "i55", NONE);
        faultDue(nineteen + "i55x", 63);
        TwoHalves x = written(nineteen + "i55iiiiiii");
        due("letters", x.about(14), 70);
        due("fault() of 70", x.fault(), 63);
    }

    private void faultTwenty() {
        faultDue(table(6, 6, 18) + "i", 58);
        faultDue(table(6, 6, 19) + "i", 61);
        faultDue(table(6, 6, 20), NONE);
        faultDue(table(6, 6, 20) + "i", 63);
        faultDue(table(6, 6, 20) + "i55", 63);
    }

    private void faultNoCell() {
        faultDue("M11i", 4);
        faultDue("M11i00i", 6);
        faultDue("M11i00i00", 6);
        faultDue("M22i00i01i10i", 13);
        faultDue("M22i00i01i10i11", NONE);
        faultDue("M22i00i01i10i11i", 15);
        faultDue(table(3, 6, 17) + "i", 55);
        faultDue(table(3, 6, 18) + "i", 57);
        faultDue(table(4, 5, 20) + "i", 63);
    }

    private void faultFullRow() {
        faultDue("M23i00i01i0", 11);
        faultDue("M23i00i01i02i0", 13);
        faultDue("M23i00i01i02i1", 14);
        faultDue("M32i20i21i2", 10);
        faultDue("M32i20i21i1", 11);
        faultDue("M21i00i0", 7);
        faultDue("M21i00i00", 7);
        faultDue("M21i00i10", NONE);
    }

    private void faultTaken() {
        faultDue("M22i01i01", 8);
        faultDue("M22i01i00", NONE);
        faultDue("M22i01i11", NONE);
        faultDue("M22i01i10", NONE);
        faultDue("M33i12i20i12", 11);
        faultDue("M33i12i20i21", NONE);
    }

    private void faultEnd() {
        faultDue("", 0);
        faultDue("M", 1);
        faultDue("M2", 2);
        faultDue("M22", NONE);
        faultDue("M22i", 4);
        faultDue("M22i0", 5);
        faultDue("M22i00", NONE);
        faultDue("M22i00i", 7);
        faultDue("M22i00i0", 8);
        faultDue("M22i00i01", NONE);
    }

    // ---- guesses and sides

    private void guessRange() {
        TwoHalves x = of("M31i00i10i20");
        for (int row = 0; row < 3; row++) {
            due("row of one shade", x.guess(0, row), row);
        }
        TwoHalves y = of(table(6, 6, 20));
        due("row of 18, 19", y.guess(0, 3), 18);
        y.move(18, 5, 5);
        due("row of 19 alone", y.guess(0, 3), 19);
        y.move(0, 4, 5);
        due("row of 0 alone", y.guess(0, 4), 0);
    }

    private void guessLeast() {
        // the row of these shades, the others in other rows
        guessDue("M22i00i01", 0);
        guessDue("M22i00i10i01", 1);
        guessDue("M26i00i10i11i01", 1);
        guessDue("M26i10i00i11i12i01", 2);
        guessDue("M26i00i01i10i02", 1);
        guessDue("M26i00i01i10i11i02", 2);
        guessDue("M26i00i01i02i03", 1);
        guessDue("M26i10i00i01i02i03", 2);
        guessDue("M26i00i10i11i12i01i02", 3);
        guessDue("M26i10i00", 1);
    }

    private void guessDue(String map, int want) {
        due("guess(0, 0) of " + map, of(map).guess(0, 0), want);
    }

    private void guessNone() {
        TwoHalves x = of("M33i11");
        int[] want = {NONE, 0, NONE};
        for (int i = 0; i < 3; i++) {
            due("row " + i, x.guess(0, i), want[i]);
        }
        x.move(0, 2, 1);
        due("the row it left", x.guess(0, 1), NONE);
        due("the row it went to", x.guess(0, 2), 0);
        due("without shades", new TwoHalves().guess(0, 0), NONE);
    }

    private void guessColumn() {
        TwoHalves x = of("M63i00i10i20i01i30");
        // columns {0, 1, 2, 4}, {3}, {}
        due("column 0", x.guess(1, 0), 2);
        due("column 1", x.guess(1, 1), 3);
        due("column 2", x.guess(1, 2), NONE);
        due("of like ones the least", of("M21i00i10").guess(1, 0), 0);
        due("0 and 3: 1 and 2 are alike", of("M22i00i01i11i10").guess(1, 0), 1);
        due("without shades", new TwoHalves().guess(1, 0), NONE);
    }

    private void sidesDue(String map, int rows, int columns) {
        TwoHalves x = of(map);
        due("side of half 0 of " + map, x.about(7), rows);
        due("side of half 1 of " + map, x.about(8), columns);
    }

    private void sides() {
        sidesDue("M11", 0, 0);
        sidesDue("M11i00", 0, 0);
        sidesDue("M12i00i01", 1, 0);
        sidesDue("M21i00i10", 0, 1);
        sidesDue("M22i00i11", 0, 0);
        // rows {0, 2} guess 1, columns {0, 1} guess 0
        sidesDue("M22i00i10i01", 2, 1);
        // rows {0, 4}, {1, 2, 3} guess 2, 2; columns {0, 1}, {2, 4}, {3} guess 0, 3, 3
        sidesDue("M23i00i10i11i12i01", 10, 3);
    }

    // ---- what comes out

    private void outBoth() {
        TwoHalves x = of(SQUARE);
        paintDown(x, 1, 1, 1, 1);
        for (int line = 0; line < 4; line++) {
            due("nothing lost, line " + line, x.dot(line, 0, true), 1);
        }
        x.lose(2);
        due("line 0: packs 0 and 3 came", x.dot(0, 0, true), 1);
        due("line 1: packs 1 and 0 came", x.dot(1, 0, true), 1);
        due("line 2: pack 2 is lost", x.dot(2, 0, true), 2);
        due("line 3: pack 2 is lost", x.dot(3, 0, true), 0);
    }

    private void outOne() {
        TwoHalves x = of(SQUARE);
        paintLine(x, 1, 0, 1, 2, 3);
        int[] byRow = {0, 0, 2, 2};
        int[] byColumn = {1, 2, 1, 2};
        x.lose(0);
        for (int dot = 0; dot < 4; dot++) {
            due("half 0 alone came: dot " + dot, x.dot(1, dot, true), byRow[dot]);
        }
        x.lose(0);
        x.lose(1);
        for (int dot = 0; dot < 4; dot++) {
            due("half 1 alone came: dot " + dot, x.dot(1, dot, true), byColumn[dot]);
        }
    }

    private void outBlank() {
        TwoHalves x = of(SQUARE);
        due("nothing lost", x.about(5), 0);
        x.lose(1);
        due("half 0 of line 1 alone lost", x.about(5), 0);
        x.lose(0);
        due("both halves of line 1 lost", x.about(5), 2);
        x.lose(1);
        due("half 1 of line 1 alone lost", x.about(5), 0);
        x.lose(3);
        due("both halves of line 0 lost", x.about(5), 1);
        x.lose(2);
        due("both halves of lines 0 and 3 lost", x.about(5), 9);
        x.lose(1);
        due("all lost", x.about(5), 15);
    }

    private void upDown() {
        TwoHalves x = of(table(1, 6, 6));
        x.shift(0);
        paintDown(x, 0, 5, 1, 4);
        x.lose(1);
        due("line 1 between 0 and 2", x.dot(1, 0, true), 0);
        x.lose(2);
        due("line 1 between 0 and 3", x.dot(1, 0, true), 2);
        due("line 2 between 0 and 3", x.dot(2, 0, true), 2);
        x.lose(1);
        due("line 2 between 1 and 3", x.dot(2, 0, true), 4);
        x.lose(3);
        due("line 2: up is 1, not 0", x.dot(2, 0, true), 5);
        due("line 3: up is 1, not 2", x.dot(3, 0, true), 5);
        loseAll(x, 0, 2, 3, 1);
        due("line 0: down is 2, not 1", x.dot(0, 0, true), 1);
        due("line 1: down is 2, not 3", x.dot(1, 0, true), 1);
    }

    private void halfCut() {
        TwoHalves x = of(table(1, 6, 6));
        x.shift(0);
        paintLine(x, 0, 0, 0, 1, 5);
        paintLine(x, 2, 0, 1, 1, 4);
        x.lose(1);
        int[] want = {0, 0, 1, 4};
        for (int dot = 0; dot < 4; dot++) {
            due("dot " + dot, x.dot(1, dot, true), want[dot]);
        }
    }

    private void oneThereIs() {
        TwoHalves x = of(table(1, 6, 6));
        x.shift(0);
        paintDown(x, 1, 3, 5, 2);
        x.lose(0);
        due("line 0 has down alone", x.dot(0, 0, true), 3);
        loseAll(x, 0, 3);
        due("line 3 has up alone", x.dot(3, 0, true), 5);
        loseAll(x, 2, 1);
        for (int line = 0; line < 4; line++) {
            due("line 0 alone came", x.dot(line, 0, true), 1);
        }
        loseAll(x, 0, 3);
        for (int line = 0; line < 4; line++) {
            due("line 3 alone came", x.dot(line, 0, true), 2);
        }
    }

    private void neither() {
        TwoHalves x = of(PAIR);
        for (int i = 0; i < 16; i++) {
            x.paint(i / 4, i % 4, 1);
        }
        loseAll(x, 0, 1, 2, 3);
        for (int i = 0; i < 16; i++) {
            due("all are blank", x.dot(i / 4, i % 4, true), 0);
        }
        due("each is off by 1", x.about(6), 16);
        x.lose(3);
        due("line 3 came by its row alone, line 0 by its column", x.about(5), 6);
        due("line 0", x.dot(0, 0, true), 1);
        due("line 3", x.dot(3, 0, true), 0);
    }

    private void noShades() {
        TwoHalves x = of("M23");
        for (int set = 0; set < 16; set++) {
            due("miss(" + set + ")", x.miss(set), 0);
        }
        for (int pack = 0; pack < 4; pack++) {
            for (int i = 0; i < 16; i++) {
                due("out", x.dot(i / 4, i % 4, true), 0);
            }
            x.lose(pack);
        }
        x.see(0, 0, 0);
        due("0 whatever is lost", x.which(), 65535);
        x.see(3, 3, 1);
        due("1 by no set", x.which(), 0);
        TwoHalves y = of(PAIR);
        y.paint(1, 2, 1);
        due("1 came out", y.dot(1, 2, true), 1);
        y.wipe();
        write(y, "M12");
        y.map();
        due("0 without shades", y.dot(1, 2, true), 0);
        due("nothing is off", y.about(6), 0);
    }

    private void squares() {
        TwoHalves x = of("M13i00i01i02");
        // by the row alone all come out as 1; pack 3 with shift 1 has half 1 of line 0
        paintLine(x, 0, 2, 2, 0, 1);
        due("nothing lost", x.miss(0), 0);
        due("off by -1, -1, 1, 0", x.miss(8), 3);
        x.shift(0);
        // line 0 is blank, and line 1 is 0
        due("off by -2, -2, 0, -1", x.miss(1), 9);
        for (int i = 0; i < 16; i++) {
            TwoHalves y = of(PAIR);
            y.paint(i / 4, i % 4, 1);
            due("dot " + i + " alone is off", y.miss(15), 1);
        }
        TwoHalves z = of(table(6, 6, 20));
        z.paint(0, 0, 19);
        due("off by 19", z.miss(15), 361);
    }

    // ---- changed, moved, laid

    private void changed() {
        TwoHalves x = of(SQUARE);
        // rows {0, 1}, {2, 3} guess 0, 2; columns {1, 2}, {0, 3} guess 1, 1
        due("0 and 1", x.change(0, 1), 8);
        due("cell of 1", x.cell(0, 0), 1);
        due("cell of 0", x.cell(0, 1), 0);
        due("another stays", x.cell(1, 1), 3);
        due("0 and 0", x.change(0, 0), LATE);
        due("3 and 3", x.change(3, 3), LATE);
        due("acts", x.about(12), 1);
        due("1 and 0", x.change(1, 0), 6);
        due("cell of 0 again", x.cell(0, 0), 0);
    }

    private void moved() {
        TwoHalves x = of("M22i00i01");
        due("a cell that is not empty", x.move(0, 0, 1), LATE);
        due("its own cell", x.move(0, 0, 0), LATE);
        due("an empty cell", x.move(1, 1, 0), 1);
        due("there", x.cell(1, 0), 1);
        due("the cell it left is empty", x.cell(0, 1), NONE);
        due("and can be moved into", x.move(0, 0, 1), 0);
        due("acts", x.about(12), 2);
    }

    private void laidApart() {
        String row = "M16";
        String column = "M61";
        for (int b = 0; b <= 5; b++) {
            row += "i0" + (5 - b);
            column += "i" + (5 - b) + "0";
            TwoHalves fits = of(row);
            due(b + 1 + " in a row by " + b, fits.lay(b) >= 0 ? 1 : 0, 1);
            due("the last is " + b + " apart", fits.cell(0, b), b);
            TwoHalves down = of(column);
            due(b + 1 + " in a column by " + b, down.lay(b) >= 0 ? 1 : 0, 1);
            due("the last is " + b + " apart", down.cell(b, 0), b);
            if (b < 5) {
                due("one more in a row by " + b, of(table(1, 6, b + 2)).lay(b), LATE);
                due("one more in a column by " + b, of(table(6, 1, b + 2)).lay(b), LATE);
            }
        }
        TwoHalves x = of(PAIR);
        due("by -1", x.lay(-1), BAD);
        due("by 6", x.lay(6), BAD);
    }

    private void laidDue(TwoHalves x, int... cells) {
        for (int s = 0; s < cells.length; s++) {
            due("row and column of " + s, 10 * x.shade(s, 0) + x.shade(s, 1), cells[s]);
        }
    }

    private void laidOrder() {
        TwoHalves x = of("M33i22i21i20i12i11i10i02i01i00");
        x.lay(2);
        laidDue(x, 0, 1, 10, 2, 11, 20, 12, 21, 22);
        TwoHalves y = of("M34i00i01i02i03i10i11i12i13");
        y.lay(1);
        laidDue(y, 0, 1, 10, 11, 12, 21, 22, 23);
        TwoHalves z = of("M43i32i00i01i02i10i11i12");
        z.lay(5);
        laidDue(z, 0, 1, 10, 2, 11, 20, 12);
        TwoHalves diagonal = of("M66i50i40i30i20i10i00");
        diagonal.lay(0);
        laidDue(diagonal, 0, 11, 22, 33, 44, 55);
    }

    // ---- acts

    private void actsKinds() {
        TwoHalves x = of("M33i00i11i22");
        x.see(0, 0, 0);
        x.seed(1);
        x.keep(0);
        x.write('i');
        x.wipe();
        x.miss(3);
        x.judge(1, 203);
        x.drawn(2);
        x.unsee();
        due("none of these is an act", x.about(12), 0);
        x.change(0, 1);
        due("changed", x.about(12), 1);
        x.move(0, 0, 1);
        due("moved", x.about(12), 2);
        x.lay(0);
        due("laid", x.about(12), 3);
        x.paint(0, 0, 1);
        due("a dot told", x.about(12), 4);
        x.shift(2);
        due("shift told anew", x.about(12), 5);
        x.lose(0);
        due("a pack lost", x.about(12), 6);
        x.lose(0);
        due("a pack found", x.about(12), 7);
        due("none is lost", x.about(4), 0);
        due("found undone: it is lost again", 10 * x.undo() + x.about(4), 61);
    }

    private void actsForgotten() {
        for (int n = 13; n <= 16; n++) {
            TwoHalves x = of(table(6, 6, 17));
            for (int s = 1; s <= n; s++) {
                x.paint(0, 0, s);
                due("acts behind " + s, x.about(12), Math.min(s, 14));
            }
            int held = Math.min(n, 14);
            for (int left = held - 1; left >= 0; left--) {
                due("undo", x.undo(), left);
                due("the dot then", x.dot(0, 0, false), n - held + left);
            }
            due("no more", x.undo(), LATE);
            due("what was forgotten stays done", x.dot(0, 0, false), Math.max(0, n - 14));
        }
    }

    private void actsUndone() {
        TwoHalves x = new TwoHalves();
        due("there is none", x.undo(), LATE);
        x.shift(3);
        x.lose(2);
        due("the last one", x.undo(), 1);
        due("pack 2 is found", x.about(4), 0);
        due("shift stays", x.about(3), 3);
        due("the one ahead of it", x.undo(), 0);
        due("shift as at first", x.about(3), 1);
        due("there is none any more", x.undo(), LATE);
        x.lose(1);
        due("a new one", x.undo(), 0);
    }

    private void actsEach() {
        TwoHalves x = of("M12i00i01");
        due("the shift that is", x.shift(1), 1);
        due("an act", x.about(12), 1);
        due("the shade that is", x.paint(0, 0, 0), 0);
        due("an act too", x.about(12), 2);
        due("laid as they are", x.lay(1), 1);
        due("an act as well", x.about(12), 3);
        x.shift(4);
        x.shift(-1);
        x.paint(0, 0, 2);
        x.paint(4, 0, 0);
        x.lay(0);
        x.lay(6);
        x.lose(4);
        x.change(1, 1);
        x.change(0, 2);
        x.move(0, 0, 1);
        x.move(0, 1, 0);
        due("what is refused is none", x.about(12), 3);
        due("undone", x.undo(), 2);
        due("undone too", x.undo(), 1);
        due("undone as well", x.undo(), 0);
    }
}
