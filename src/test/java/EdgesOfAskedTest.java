import java.io.IOException;

/** The edges that part 2 of the document names: best change, best shift, band, doings judged. */
public final class EdgesOfAskedTest extends Edges {
    EdgesOfAskedTest() {
        says("nothingChanged", "In what follows nothing is changed.", this::nothingChanged);
        says("bestChange", "BEST CHANGE: two SHADES a less than b, told as 100 a and b together, by whose "
            + "being CHANGED SIDES of both HALVES together are least,", this::bestChange);
        says("bestChangeLess", "if that is less than now;", this::bestChangeLess);
        says("bestChangeLike", "of like ones the least such number; NONE.", this::bestChangeLike);
        says("bestShift", "BEST SHIFT: the SHIFT by which the greatest MISS that there is by any one PACK "
            + "LOST alone is least;", this::bestShift);
        says("bestShiftLike", "LOST alone is least; of like ones the least.", this::bestShiftLike);
        says("band", "BAND: the least b by which all SHADES can be LAID; NONE: by none.", this::band);
        says("judgeCount", "JUDGED: n doings (1 .. 4),", this::judgeCount);
        says("judgeFigures", "told as three figures each, the first doing's the highest of row",
            this::judgeFigures);
        says("judgePack", "(1, 0, a PACK: LOST, or found;", this::judgePack);
        says("judgeShift", "2, 0, v: SHIFT is told, v 0 .. 3;", this::judgeShift);
        says("judgeRight", "3, a LINE, a DOT: what comes out there is right;", this::judgeRight);
        says("judgeBlank", "4, 0, a LINE: it is BLANK;", this::judgeBlank);
        says("judgeChange", "5, two SHADES (0 .. 9 each): CHANGED;", this::judgeChange);
        says("judgeMiss", "6, two figures: MISS is that or less)", this::judgeMiss);
        says("judgePlace", "the place (from 0) of the first that can not be (or is not so),",
            this::judgePlace);
        says("judgeAhead", "what is ahead of it being done; NONE: none.", this::judgeAhead);
        says("judgeDone", "1, 2, 5 are done, 3, 4, 6 asked.", this::judgeDone);
    }

    public static void main(String[] args) throws IOException {
        new EdgesOfAskedTest().end();
    }

    private void nothingChanged() {
        TwoHalves x = of(SIX);
        x.change(0, 5);
        paintLine(x, 1, 1, 2, 3, 4);
        x.shift(2);
        x.lose(1);
        x.see(1, 1, 2);
        x.seed(-7);
        String before = stand(x);
        for (int i = 0; i < 2; i++) {
            due("best change", x.about(9) == NONE ? 1 : 0, 0);
            due("5 is in the cell of 0", x.cell(0, 0), 5);
            due("1 is in its own", x.cell(0, 1), 1);
        }
        due("best shift", x.about(10) >= 0 ? 1 : 0, 1);
        due("band", x.about(11), 2);
        due("judged, all done", x.judge(4, 103200512600L), 3);
        due("judged, none wrong", x.judge(4, 103103102203L), NONE);
        due("judged, the first can not be", x.judge(1, 104), 0);
        same("all", stand(x), before);
        due("the last act is still the pack", x.undo(), 6);
        due("it is found", x.about(4), 0);
    }

    // ---- best change, best shift, band

    /** Each pair changed and undone: the least sum, told as the first pair that has it. */
    private void bestChangeDue(TwoHalves x, int want) {
        due("best change", x.about(9), want);
        int least = x.about(7) + x.about(8);
        int best = NONE;
        int shades = x.about(2);
        for (int a = 0; a < shades; a++) {
            for (int b = a + 1; b < shades; b++) {
                int sum = x.change(a, b);
                x.undo();
                if (sum < least) {
                    least = sum;
                    best = 100 * a + b;
                }
            }
        }
        due("best of all pairs", best, want);
    }

    private void bestChange() {
        // rows {0, 1, 3}, {2, 4, 5}, columns are exact
        bestChangeDue(of("M26i00i01i12i03i14i15"), 203);
        // rows {0, 1, 5}, {2, 3, 4}
        bestChangeDue(of("M26i00i01i12i13i14i05"), 205);
        // rows {3, 1, 2}, {0, 4, 5}
        bestChangeDue(of("M26i10i01i02i03i14i15"), 3);
        TwoHalves x = of(table(4, 5, 20));
        x.lay(4);
        x.change(10, 19);
        bestChangeDue(x, 1019);
    }

    private void bestChangeLess() {
        // rows {0, 2}, {1, 3}, columns {0, 1}, {2, 3}: 1 and 2 changed is as much as now
        TwoHalves x = of("M22i00i10i01i11");
        due("now", x.about(7) + x.about(8), 6);
        due("1 and 2 changed", x.change(1, 2), 6);
        x.undo();
        due("as much as now is not less", x.about(9), NONE);
        due("two in a row", of(PAIR).about(9), NONE);
        // rows {0, 2}, {1, 3}, columns are exact: 4 now, 2 by 0 and 3
        due("less than now", of("M24i00i11i02i13").about(9), 3);
    }

    private void bestChangeLike() {
        TwoHalves x = of("M24i00i11i02i13");
        due("0 and 3", x.change(0, 3), 2);
        x.undo();
        due("1 and 2", x.change(1, 2), 2);
        x.undo();
        due("of like ones the least", x.about(9), 3);
        x.change(0, 3);
        due("none is less then", x.about(9), NONE);
        due("one shade", of("M22i00").about(9), NONE);
        due("no shade", of("M22").about(9), NONE);
        due("two shades", of("M22i00i11").about(9), NONE);
    }

    private void bestShiftDue(TwoHalves x, int want) {
        due("best shift", x.about(10), want);
        int least = HIGH;
        int best = NONE;
        for (int v = 0; v < 4; v++) {
            x.shift(v);
            int greatest = 0;
            for (int pack = 0; pack < 4; pack++) {
                greatest = Math.max(greatest, x.miss(1 << pack));
            }
            if (greatest < least) {
                least = greatest;
                best = v;
            }
        }
        due("best of all shifts", best, want);
        due("whatever shift is now", x.about(10), want);
    }

    private TwoHalves six(int... down) {
        TwoHalves x = of(SIX);
        paintDown(x, down);
        return x;
    }

    private void bestShift() {
        TwoHalves ones = of(PAIR);
        paintDown(ones, 1, 1, 1, 1);
        bestShiftDue(ones, 0);
        // each half tells all: nothing is off but a line that is blank, by 1
        TwoHalves exact = of("M22i00i11");
        paintDown(exact, 1);
        bestShiftDue(exact, 1);
        bestShiftDue(six(5, 1, 0, 0), 1);
        bestShiftDue(six(5, 0, 1, 0), 2);
        bestShiftDue(six(1, 5, 0, 0), 3);
    }

    private void bestShiftLike() {
        bestShiftDue(of(PAIR), 0);
        bestShiftDue(of("M66"), 0);
        bestShiftDue(six(5, 1, 0, 1), 1);
        bestShiftDue(six(5, 0, 0, 0), 1);
        bestShiftDue(six(1, 1, 5, 0), 2);
    }

    private void bandDue(int rows, int columns, int shades, int want) {
        String map = table(rows, columns, shades);
        TwoHalves x = of(map);
        due("band of " + map, x.about(11), want);
        due("laid by it", x.lay(want) == LATE ? 1 : 0, 0);
        if (want > 0) {
            due("laid by less", x.lay(want - 1), LATE);
        }
    }

    private void band() {
        for (int n = 1; n <= 6; n++) {
            bandDue(1, 6, n, n - 1);
            bandDue(6, 1, n, n - 1);
        }
        bandDue(3, 3, 3, 0);
        bandDue(3, 3, 4, 1);
        bandDue(3, 3, 7, 1);
        bandDue(3, 3, 8, 2);
        bandDue(3, 3, 9, 2);
        bandDue(6, 6, 6, 0);
        bandDue(6, 6, 7, 1);
        bandDue(6, 6, 16, 1);
        bandDue(6, 6, 17, 2);
        bandDue(6, 6, 20, 2);
        for (int rows = 1; rows <= 6; rows++) {
            for (int columns = 1; columns <= 6; columns++) {
                int most = Math.min(20, rows * columns);
                due("by 5 there is room for all", of(table(rows, columns, most)).lay(5) >= 0 ? 1 : 0, 1);
            }
        }
    }

    // ---- doings judged

    /** PAIR with shift 0 and one dot of line 1 that is shade 1: blank, line 1 comes out as 0. */
    private TwoHalves spot() {
        TwoHalves x = of(PAIR);
        x.shift(0);
        x.paint(1, 0, 1);
        return x;
    }

    private void judgeCount() {
        TwoHalves x = spot();
        due("n -1", x.judge(-1, 0), BAD);
        due("n 0", x.judge(0, 0), BAD);
        due("n 1", x.judge(1, 203), NONE);
        due("n 2", x.judge(2, 203203), NONE);
        due("n 3", x.judge(3, 203203203), NONE);
        due("n 4", x.judge(4, 203203203203L), NONE);
        due("n 5", x.judge(5, 203203203203203L), BAD);
        due("n 5 with fewer figures", x.judge(5, 203), BAD);
        due("n low", x.judge(LOW, 203), BAD);
        due("n high", x.judge(HIGH, 203), BAD);
    }

    private void judgeFigures() {
        TwoHalves x = spot();
        due("the first of 2", x.judge(2, 104203), 0);
        due("the last of 2", x.judge(2, 203104), 1);
        due("the first of 4", x.judge(4, 104203203203L), 0);
        due("the second of 4", x.judge(4, 203104203203L), 1);
        due("the third of 4", x.judge(4, 203203104203L), 2);
        due("the last of 4", x.judge(4, 203203203104L), 3);
        due("three figures for two doings", x.judge(2, 203), 0);
        due("the highest number of 1", x.judge(1, 999), 0);
        due("one more", x.judge(1, 1000), BAD);
        due("the highest number of 4", x.judge(4, 999999999999L), 0);
        due("one more", x.judge(4, 1000000000000L), BAD);
        for (int kind = 0; kind <= 9; kind++) {
            boolean told = kind >= 1 && kind <= 6;
            if (!told) {
                due("no doing is told by " + kind, x.judge(1, 100 * kind), 0);
                due("nor by it with others", x.judge(1, 100 * kind + 11), 0);
            }
        }
    }

    private void judgePack() {
        TwoHalves x = spot();
        for (int pack = 0; pack <= 9; pack++) {
            due("pack " + pack, x.judge(1, 100 + pack), pack <= 3 ? NONE : 0);
            due("not 0, pack " + pack, x.judge(1, 110 + pack), 0);
        }
        due("190", x.judge(1, 190), 0);
        for (int pack = 0; pack < 4; pack++) {
            due("lost", x.judge(2, 100400 + 1001 * pack), NONE);
            due("lost and found", x.judge(3, 100100400 + 1001001L * pack), 2);
        }
        x.lose(1);
        due("found, if it is lost now", x.judge(2, 101401), 1);
        due("blank as it is now", x.judge(1, 401), NONE);
    }

    private void judgeShift() {
        TwoHalves x = spot();
        for (int v = 0; v <= 9; v++) {
            due("shift " + v, x.judge(1, 200 + v), v <= 3 ? NONE : 0);
            due("not 0, shift " + v, x.judge(1, 210 + v), 0);
        }
        due("290", x.judge(1, 290), 0);
        due("shift 0: pack 1 has line 1 whole", x.judge(3, 200101401), NONE);
        for (int v = 1; v < 4; v++) {
            for (int pack = 0; pack < 4; pack++) {
                long row = 200101100401L + 1000000000L * v + 1000L * pack;
                boolean blank = pack == (1 - v + 4) % 4;
                due("judge(4, " + row + ")", x.judge(4, row), blank ? NONE : 3);
            }
        }
    }

    private void judgeRight() {
        TwoHalves x = spot();
        for (int line = 0; line <= 5; line++) {
            for (int dot = 0; dot <= 5; dot++) {
                boolean there = line <= 3 && dot <= 3;
                due("dot " + dot + " of line " + line, x.judge(1, 300 + 10 * line + dot), there ? NONE : 0);
            }
        }
        due("390", x.judge(1, 390), 0);
        due("309", x.judge(1, 309), 0);
        due("not right", x.judge(2, 101310), 1);
        due("right by what is next to it", x.judge(2, 101311), NONE);
        due("another line", x.judge(2, 100310), NONE);
        due("without shades", new TwoHalves().judge(1, 333), NONE);
    }

    private void judgeBlank() {
        TwoHalves x = spot();
        for (int line = 0; line <= 9; line++) {
            due("not blank, line " + line, x.judge(1, 400 + line), 0);
            due("pack 2 lost, line " + line, x.judge(2, 102400 + line), line == 2 ? NONE : 1);
            due("pack 3 lost, not 0, line " + line, x.judge(2, 103410 + line), 1);
        }
        due("by guesses alone is not blank", of(PAIR).judge(2, 101401), 1);
        due("without shades", new TwoHalves().judge(3, 100103400), NONE);
    }

    private void judgeChange() {
        TwoHalves ten = of(table(6, 6, 10));
        due("0 and 9 of 10", ten.judge(1, 509), NONE);
        due("9 and 0 of 10", ten.judge(1, 590), NONE);
        due("9 and 8 of 10", ten.judge(1, 598), NONE);
        for (int s = 0; s <= 9; s++) {
            due("like shades", ten.judge(1, 500 + 11 * s), 0);
        }
        TwoHalves nine = of(table(6, 6, 9));
        due("0 and 8 of 9", nine.judge(1, 508), NONE);
        due("0 and 9 of 9", nine.judge(1, 509), 0);
        due("9 and 0 of 9", nine.judge(1, 590), 0);
        due("without shades", new TwoHalves().judge(1, 501), 0);
        TwoHalves x = of(SQUARE);
        paintLine(x, 0, 0, 1, 2, 3);
        // by columns alone: guesses 1, 2 now; 1, 1 with 0 and 1 changed
        due("not right by columns", x.judge(2, 100301), 1);
        due("right by columns, changed", x.judge(3, 501100301), NONE);
        due("changed back", x.judge(4, 501510100301L), 3);
    }

    private void judgeMiss() {
        TwoHalves x = spot();
        due("0 of 0", x.judge(1, 600), NONE);
        due("1 of 0", x.judge(2, 101600), 1);
        due("1 of 1", x.judge(2, 101601), NONE);
        due("1 of 10", x.judge(2, 101610), NONE);
        due("1 of 99", x.judge(2, 101699), NONE);
        TwoHalves y = of(table(6, 6, 20));
        loseAll(y, 0, 1, 2, 3);
        paintLine(y, 0, 9, 3, 3, 0);
        due("99 of 98", y.judge(1, 698), 0);
        due("99 of 99", y.judge(1, 699), NONE);
        y.paint(0, 3, 1);
        due("100 of 99", y.judge(1, 699), 0);
        y.paint(0, 0, 1);
        due("20 of 19", y.judge(1, 619), 0);
        due("20 of 20", y.judge(1, 620), NONE);
        due("20 of 21", y.judge(1, 621), NONE);
    }

    private void judgePlace() {
        TwoHalves x = spot();
        due("not so at 0", x.judge(4, 400203104999L), 0);
        due("can not be at 0", x.judge(4, 104400203203L), 0);
        due("not so at 1", x.judge(4, 203401104999L), 1);
        due("can not be at 2", x.judge(4, 203203204401L), 2);
        due("not so at 3", x.judge(4, 203203203401L), 3);
        due("can not be at 3", x.judge(4, 203203203700L), 3);
        due("none", x.judge(4, 203203203203L), NONE);
    }

    private void judgeAhead() {
        TwoHalves x = spot();
        due("blank behind the loss", x.judge(2, 101401), NONE);
        due("not blank ahead of it", x.judge(2, 401101), 0);
        due("right ahead of the loss, not behind it", x.judge(3, 310101310), 2);
        due("found again", x.judge(4, 101401101310L), NONE);
        due("what was judged last is not done now", x.judge(1, 310), NONE);
    }

    private void judgeDone() {
        TwoHalves x = of(SQUARE);
        paintLine(x, 0, 0, 1, 2, 3);
        due("1 is done", x.judge(2, 100600), 1);
        // shift 0: line 0 is blank, and line 1 is 0: 0 + 1 + 4 + 9
        due("2 is done", x.judge(3, 200100613), 2);
        due("2 is done, enough", x.judge(3, 200100614), NONE);
        due("2 is done, and 3 goes by it", spot().judge(3, 201101310), NONE);
        // columns {1, 2}, {0, 3} guess 1, 1: 1 + 0 + 1 + 4
        due("5 is done", x.judge(3, 501100605), 2);
        due("5 is done, enough", x.judge(3, 501100606), NONE);
        due("3 is asked: nothing changes", x.judge(4, 300301302600L), NONE);
        due("4 is asked: the line is as it was", x.judge(4, 200100400614L), NONE);
        due("6 is asked: miss is as it was", x.judge(4, 200100614614L), NONE);
    }
}
