import java.io.IOException;

/** The edges that parts 4 and 5 of the document name: more plainly, refusals. */
public final class EdgesOfRefusalsTest extends Edges {
    EdgesOfRefusalsTest() {
        says("shiftZero", "With SHIFT 0 a PACK holds both HALVES of one LINE.", this::shiftZero);
        says("allAlike", "SIDES, GUESSES are by all SHADES alike, not by how often they are in THE "
            + "PICTURE.", this::allAlike);
        says("guessesNotBlank", "A LINE that came out by GUESSES alone is not BLANK, and is UP or DOWN of "
            + "others as it came out;", this::guessesNotBlank);
        says("blankNever", "a BLANK one never is.", this::blankNever);
        says("noneLeftOut", "LAID leaves no SHADE out: if there are fewer such CELLS than SHADES, it can "
            + "not be.", this::noneLeftOut);
        says("pictureStays", "THE PICTURE stays when SHADES are CHANGED, MOVED, LAID (its DOTS are the "
            + "same SHADES).", this::pictureStays);
        says("off", "What is off is what comes out less the DOT.", this::off);
        says("shareAllLost", "SHARE: all PACKS LOST at first.", this::shareAllLost);
        says("guessElsewhere", "GUESS may be a SHADE of another ROW.", this::guessElsewhere);
        says("bandNoShades", "BAND without SHADES: 0.", this::bandNoShades);
        says("bestShiftAside", "BEST SHIFT sets aside which PACKS are LOST now.", this::bestShiftAside);
        says("halfOne", "HALF 1 of LINE l is in the PACK that is left of (l less SHIFT) by 4.",
            this::halfOne);
        says("ownCell", "A SHADE can not be MOVED into its own CELL (that is not empty).", this::ownCell);
        says("whichNothing", "WHICH where nothing is SEEN: all 16 sets.", this::whichNothing);
        says("drawnLost", "DRAWN goes by PACKS that are LOST now.", this::drawnLost);
        says("notUndone", "THE TEXT, SEEN, THE SEED are not undone or kept;", this::notUndone);
        says("lateMap", "a map() that is LATE changes nothing.", this::lateMap);
        says("refusalOrder", "REFUSALS, of several the first that a call names (in just that row):",
            this::refusalOrder);
        says("refusalNumbers", "UNKNOWN -1 (there is no such SHADE, ROW, COLUMN, LINE, DOT, PACK, SLOT), "
            + "BAD -2, LATE -3, FULL -4.", this::refusalNumbers);
        says("refusedNothing", "What is refused changes nothing.", this::refusedNothing);
        says("none", "NONE is -9.", this::none);
        says("fractionSigns", "FRACTIONS are told above (upper = true; less than 0, if they are), below,",
            this::fractionSigns);
        says("fractionTerms", "in least terms.", this::fractionTerms);
        says("sets", "Sets are told as bits.", this::sets);
    }

    public static void main(String[] args) throws IOException {
        new EdgesOfRefusalsTest().end();
    }

    // ---- more plainly

    private void shiftZero() {
        TwoHalves x = of(SQUARE);
        for (int v = 0; v < 4; v++) {
            x.shift(v);
            for (int pack = 0; pack < 4; pack++) {
                x.lose(pack);
                due("shift " + v + ", pack " + pack + " lost", x.about(5), v == 0 ? 1 << pack : 0);
                x.lose(pack);
            }
        }
        TwoHalves y = of(SQUARE);
        y.shift(0);
        paintDown(y, 1, 1, 1, 1);
        loseAll(y, 0, 1, 3);
        due("the line whose pack came", y.dot(2, 0, true), 1);
        due("the others are blank", y.about(5), 11);
    }

    private void allAlike() {
        TwoHalves x = of(SQUARE);
        for (int i = 0; i < 16; i++) {
            x.paint(i / 4, i % 4, 3);
        }
        due("row 0", x.guess(0, 0), 0);
        due("row 1", x.guess(0, 1), 2);
        due("column 0", x.guess(1, 0), 1);
        due("column 1", x.guess(1, 1), 2);
        due("side of half 0", x.about(7), 2);
        due("side of half 1", x.about(8), 4);
        x.lose(0);
        due("what comes out by columns", x.dot(0, 0, true), 2);
    }

    private void guessesNotBlank() {
        TwoHalves x = of(SQUARE);
        paintDown(x, 1, 3, 2, 0);
        loseAll(x, 0, 1);
        // line 0 by columns is 2, line 2 by rows is 2; as told they are 1 and 2
        due("line 1 alone is blank", x.about(5), 2);
        due("line 0", x.dot(0, 0, true), 2);
        due("line 2", x.dot(2, 0, true), 2);
        due("line 1, between them as they came out", x.dot(1, 0, true), 2);
        TwoHalves y = of(SQUARE);
        paintDown(y, 0, 0, 0, 1);
        loseAll(y, 0, 3, 2);
        // line 3 is blank, line 0 too; line 1 by rows, line 2 by columns is 1
        due("lines 0 and 3 are blank", y.about(5), 9);
        due("line 3 by line 2 as it came out", y.dot(3, 0, true), 1);
    }

    private void blankNever() {
        TwoHalves x = of(SQUARE);
        paintDown(x, 1, 0, 0, 1);
        loseAll(x, 0, 1, 2);
        // line 0 by columns is 2, line 3 by rows is 0; lines 1 and 2 are blank
        due("lines 1 and 2 are blank", x.about(5), 6);
        due("line 1 between 0 and 3", x.dot(1, 0, true), 1);
        due("line 2 between 0 and 3, not 1 and 3", x.dot(2, 0, true), 1);
        x.change(0, 1);
        // 1 is in cell (0, 0) then: by columns {1, 2} it is 1, by rows 0
        due("line 1 between 1 and 0", x.dot(1, 0, true), 0);
    }

    private void noneLeftOut() {
        due("3 by 0", of(table(3, 3, 3)).lay(0) >= 0 ? 1 : 0, 1);
        due("4 by 0", of(table(3, 3, 4)).lay(0), LATE);
        due("7 by 1", of(table(3, 3, 7)).lay(1) >= 0 ? 1 : 0, 1);
        TwoHalves x = of(table(3, 3, 8));
        String before = stand(x);
        due("8 by 1", x.lay(1), LATE);
        same("what can not be laid", stand(x), before);
        due("8 by 2", x.lay(2) >= 0 ? 1 : 0, 1);
        for (int s = 0; s < 8; s++) {
            due("shade " + s + " is there", x.cell(x.shade(s, 0), x.shade(s, 1)), s);
        }
        due("none by 0", of("M33").lay(0), 0);
    }

    private void pictureStays() {
        TwoHalves x = of("M33i00i11i22");
        for (int i = 0; i < 16; i++) {
            x.paint(i / 4, i % 4, (i + 1) % 3);
        }
        dotsStay(x);
        x.change(0, 2);
        dotsStay(x);
        x.move(0, 0, 1);
        dotsStay(x);
        x.lay(2);
        dotsStay(x);
        due("what comes out is the same", x.about(6), 0);
    }

    private void dotsStay(TwoHalves x) {
        for (int i = 0; i < 16; i++) {
            due("dot " + i, x.dot(i / 4, i % 4, false), (i + 1) % 3);
        }
    }

    private void off() {
        TwoHalves x = of(table(1, 6, 6));
        x.shift(0);
        paintDown(x, 1, 4, 5, 2);
        x.lose(0);
        due("4 less 1", x.about(6), 9);
        loseAll(x, 0, 1);
        due("3 less 4", x.about(6), 1);
        loseAll(x, 1, 2);
        due("3 less 5", x.about(6), 4);
        loseAll(x, 2, 3);
        due("5 less 2", x.about(6), 9);
        x.lose(0);
        due("5 less 2, 4 less 1", x.about(6), 18);
    }

    private void shareAllLost() {
        TwoHalves x = of(PAIR);
        x.shift(0);
        paintLine(x, 1, 1, 1, 1, 1);
        int[] first = new int[4];
        int sum = 0;
        for (int pack = 0; pack < 4; pack++) {
            first[pack] = x.share(pack, true) * (24 / x.share(pack, false));
            sum += first[pack];
        }
        due("all four: from all lost to none", sum, 24 * (x.miss(15) - x.miss(0)));
        due("that is 4", sum, 24 * 4);
        for (int lost = 0; lost < 4; lost++) {
            x.lose(lost);
            for (int pack = 0; pack < 4; pack++) {
                due("whatever is lost now", x.share(pack, true) * (24 / x.share(pack, false)), first[pack]);
            }
        }
        due("lost stays", x.about(4), 15);
    }

    private void guessElsewhere() {
        TwoHalves x = of("M22i00i10i11i01");
        // row 0 has 0 and 3, row 1 has 1 and 2
        due("guess of row 0", x.guess(0, 0), 1);
        due("it is in row 1", x.shade(1, 0), 1);
        TwoHalves y = of(SQUARE);
        due("guess of column 0", y.guess(1, 0), 1);
        due("it is in column 1", y.shade(1, 1), 1);
    }

    private void bandNoShades() {
        due("at first", new TwoHalves().about(11), 0);
        due("of a large table", of("M66").about(11), 0);
        due("of a long one", of("M16").about(11), 0);
        due("one shade", of("M16i05").about(11), 0);
        due("two shades", of("M16i05i04").about(11), 1);
    }

    private void bestShiftAside() {
        TwoHalves x = of(SIX);
        paintDown(x, 5, 0, 1, 0);
        for (int set = 0; set < 16; set++) {
            due("best shift", x.about(10), 2);
            x.lose(Integer.numberOfTrailingZeros(set + 1) % 4);
        }
    }

    /** Shade 1 of SQUARE is 0 by its row alone, which tells that half 1 is lost. */
    private void halfOne() {
        for (int v = 0; v < 4; v++) {
            TwoHalves x = of(SQUARE);
            x.shift(v);
            paintDown(x, 1, 1, 1, 1);
            for (int line = 0; line < 4; line++) {
                int pack = Math.floorMod(line - v, 4);
                x.lose(pack);
                due("line " + line + ", shift " + v, x.dot(line, 0, true), v == 0 ? 1 : 0);
                due("blank with shift 0 alone", x.about(5), v == 0 ? 1 << line : 0);
                x.lose(pack);
            }
        }
    }

    private void ownCell() {
        TwoHalves x = of("M33i11i12");
        due("its own", x.move(0, 1, 1), LATE);
        due("another's", x.move(0, 1, 2), LATE);
        due("no act", x.about(12), 0);
        due("an empty one, in the column of 1", x.move(0, 2, 2), 1);
        due("its own then", x.move(0, 2, 2), LATE);
        due("its own of before", x.move(0, 1, 1), 1);
    }

    private void whichNothing() {
        due("at first", new TwoHalves().which(), 65535);
        TwoHalves x = of(SIX);
        paintLine(x, 0, 1, 2, 3, 4);
        due("of a picture", x.which(), 65535);
        x.lose(1);
        due("with a pack lost", x.which(), 65535);
        x.see(0, 0, 19);
        due("something that is not so", x.which(), 0);
        x.unsee();
        due("nothing again", x.which(), 65535);
    }

    private void drawnLost() {
        TwoHalves x = of(PAIR);
        due("none lost", x.drawn(4), 0);
        loseAll(x, 0, 1, 2, 3);
        x.seed(0);
        due("all lost", x.drawn(4), 7);
        x.seed(0);
        x.lose(3);
        // dot (3, 3) is 1 and comes by its row, 0; dot (0, 1) is 1 and comes by its column, 1, so that
        // lines 1 and 2 between them come out as 0 there; dot (1, 0) is 1 at last
        due("pack 3 found", x.drawn(4), 1 + 1 + 1 + 2);
        due("by shift that is now", x.shift(0), 1);
        x.seed(0);
        // line 3 comes, and all are as it is: dot 3 of the three others is off by 1; then dot (0, 1)
        due("shift 0", x.drawn(3), 3 + 3 + 4);
    }

    private void notUndone() {
        TwoHalves x = of(PAIR);
        x.keep(0);
        x.shift(2);
        x.write('i');
        x.see(1, 1, 1);
        x.seed(77);
        due("undone", x.undo(), 0);
        due("letters", x.about(14), 10);
        due("seen", x.about(13), 1);
        due("seed", x.seed(77), 77);
        due("none of them is an act", x.undo(), LATE);
        due("kept", x.again(0), 0);
        due("letters then", x.about(14), 10);
        due("fault of them", x.fault(), 9);
        due("seen then", x.about(13), 1);
        due("seed then", x.seed(0), 77);
        x.wipe();
        x.unsee();
        x.again(0);
        due("no letters come back", x.about(14), 0);
        due("nothing seen comes back", x.about(13), 0);
    }

    private void lateMap() {
        TwoHalves x = of(SIX);
        paintLine(x, 1, 1, 2, 3, 4);
        x.change(0, 5);
        x.lose(1);
        x.keep(1);
        x.shift(2);
        x.see(1, 1, 2);
        x.seed(3);
        x.write('x');
        String before = stand(x);
        due("a fault", x.map(), LATE);
        same("all", stand(x), before);
        x.wipe();
        write(x, "M11i0");
        due("not at its end", x.map(), LATE);
        due("shades stay", x.about(2), 6);
        due("shift is undone", x.undo(), 6);
        due("shift is as it was", x.about(3), 1);
        due("what was kept is not gone", x.again(1), 2);
        due("slot 0 is as it was", x.again(0), LATE);
        x.write('0');
        due("a map", x.map(), 1);
        due("what was kept is gone", x.again(1), LATE);
    }

    // ---- refusals

    private void refusalOrder() {
        TwoHalves x = of(SQUARE);
        due("shade: unknown, bad", x.shade(4, 3), UNKNOWN);
        due("guess: bad, unknown", x.guess(2, 2), BAD);
        due("guess: bad, unknown, low", x.guess(-1, -1), BAD);
        due("change: unknown, late", x.change(4, 4), UNKNOWN);
        due("move: unknown shade, cell not empty", x.move(4, 0, 0), UNKNOWN);
        due("again: unknown, late", x.again(2), UNKNOWN);
        due("see: unknown, bad", x.see(4, 0, 20), UNKNOWN);
        for (int i = 0; i < 6; i++) {
            x.see(0, 0, 0);
        }
        due("see: unknown, bad, full", x.see(0, 4, -1), UNKNOWN);
        due("see: unknown, full", x.see(0, -1, 0), UNKNOWN);
        due("see: bad, full", x.see(0, 0, 20), BAD);
        due("see: full", x.see(0, 0, 19), FULL);
        for (int i = 15; i < 70; i++) {
            x.write(0);
        }
        due("write: bad, full", x.write(256), BAD);
        due("write: full", x.write(255), FULL);
    }

    private void refusalNumbers() {
        due("UNKNOWN", TwoHalves.UNKNOWN, -1);
        due("BAD", TwoHalves.BAD, -2);
        due("LATE", TwoHalves.LATE, -3);
        due("FULL", TwoHalves.FULL, -4);
        TwoHalves x = of(SIX);
        due("no such shade", x.shade(6, 0), -1);
        due("no such row", x.cell(2, 0), -1);
        due("no such column", x.cell(0, 3), -1);
        due("no such line", x.dot(4, 0, true), -1);
        due("no such dot", x.dot(0, 4, true), -1);
        due("no such pack to lose", x.lose(4), -1);
        due("no such pack to share", x.share(4, true), -1);
        due("no such slot to keep", x.keep(2), -1);
        due("no such slot to go on from", x.again(2), -1);
        due("bad", x.shift(4), -2);
        due("late", x.undo(), -3);
        for (int i = 0; i < 6; i++) {
            x.see(0, 0, 0);
        }
        due("full", x.see(0, 0, 0), -4);
    }

    private void refusedNothing() {
        TwoHalves x = of("M33i00i11i22i02");
        paintLine(x, 1, 1, 2, 3, 0);
        x.shift(2);
        x.lose(1);
        x.keep(1);
        x.lose(3);
        for (int i = 0; i < 6; i++) {
            x.see(i % 4, 0, i);
        }
        x.seed(5);
        for (int i = 15; i < 70; i++) {
            x.write('i');
        }
        String before = stand(x);
        refuseMap(x);
        refuseActs(x);
        refuseAsked(x);
        same("all", stand(x), before);
        due("the last act is still the last", x.undo(), 6);
        due("pack 3 is found", x.about(4), 2);
        due("slot 1 is still kept", x.again(1), 2);
        due("slot 0 is still not", x.again(0), LATE);
    }

    private void refuseMap(TwoHalves x) {
        due("write(-1)", x.write(-1), BAD);
        due("write(256)", x.write(256), BAD);
        due("write at 70", x.write('M'), FULL);
        due("map", x.map(), LATE);
        due("about(15)", x.about(15), BAD);
        due("shade(4, 0)", x.shade(4, 0), UNKNOWN);
        due("shade(0, 3)", x.shade(0, 3), BAD);
        due("cell(3, 0)", x.cell(3, 0), UNKNOWN);
        due("guess(2, 0)", x.guess(2, 0), BAD);
        due("guess(0, 3)", x.guess(0, 3), UNKNOWN);
        due("dot(0, 4)", x.dot(0, 4, true), UNKNOWN);
    }

    private void refuseActs(TwoHalves x) {
        due("change(0, 4)", x.change(0, 4), UNKNOWN);
        due("change(4, 0)", x.change(4, 0), UNKNOWN);
        due("change(1, 1)", x.change(1, 1), LATE);
        due("move(4, 1, 0)", x.move(4, 1, 0), UNKNOWN);
        due("move(0, 3, 0)", x.move(0, 3, 0), UNKNOWN);
        due("move(0, 0, 3)", x.move(0, 0, 3), UNKNOWN);
        due("move(0, 1, 1)", x.move(0, 1, 1), LATE);
        due("lay(-1)", x.lay(-1), BAD);
        due("lay(6)", x.lay(6), BAD);
        due("lay(0)", x.lay(0), LATE);
        due("paint(4, 0, 1)", x.paint(4, 0, 1), UNKNOWN);
        due("paint(0, 4, 1)", x.paint(0, 4, 1), UNKNOWN);
        due("paint(0, 0, 4)", x.paint(0, 0, 4), UNKNOWN);
        due("shift(4)", x.shift(4), BAD);
        due("lose(4)", x.lose(4), UNKNOWN);
    }

    private void refuseAsked(TwoHalves x) {
        due("miss(16)", x.miss(16), BAD);
        due("judge(5)", x.judge(5, 100), BAD);
        due("judge(1, 1000)", x.judge(1, 1000), BAD);
        due("see(4, 0, 0)", x.see(4, 0, 0), UNKNOWN);
        due("see(0, 0, 20)", x.see(0, 0, 20), BAD);
        due("see at 6", x.see(0, 0, 0), FULL);
        due("share(4)", x.share(4, true), UNKNOWN);
        due("chance(10000, 0)", x.chance(10000, 0, true), BAD);
        due("chance(0, 11)", x.chance(0, 11, true), BAD);
        due("mean(11)", x.mean(11, true), BAD);
        due("drawn(0)", x.drawn(0), BAD);
        due("drawn(21)", x.drawn(21), BAD);
        due("keep(2)", x.keep(2), UNKNOWN);
        due("keep(-1)", x.keep(-1), UNKNOWN);
        due("again(2)", x.again(2), UNKNOWN);
        due("again(0)", x.again(0), LATE);
    }

    private void none() {
        due("NONE", TwoHalves.NONE, -9);
        TwoHalves x = of("M22i00");
        due("fault", x.fault(), -9);
        due("cell", x.cell(1, 1), -9);
        due("guess of a row", x.guess(0, 1), -9);
        due("guess of a column", x.guess(1, 1), -9);
        due("best change", x.about(9), -9);
        due("judged", x.judge(1, 100), -9);
    }

    // ---- fractions, sets

    private void fractionSigns() {
        TwoHalves x = of(PAIR);
        x.shift(0);
        x.paint(1, 0, 1);
        due("less than 0, above", x.share(1, true), -1);
        due("less than 0, below", x.share(1, false), 6);
        due("more than 0, above", x.share(0, true), 1);
        due("more than 0, below", x.share(0, false), 2);
        due("0 above", x.chance(0, 10, true), 0);
        due("0 below", x.chance(0, 10, false), 1);
        due("0 above by share", new TwoHalves().share(0, true), 0);
        due("0 below by share", new TwoHalves().share(0, false), 1);
        due("0 above by mean", x.mean(0, true), 0);
        due("0 below by mean", x.mean(0, false), 1);
    }

    private void termsDue(int above, int below, int wantAbove, int wantBelow) {
        due("above", above, wantAbove);
        due("below", below, wantBelow);
    }

    private void fractionTerms() {
        TwoHalves x = of(table(1, 6, 6));
        x.shift(0);
        paintDown(x, 1, 4, 2, 5);
        // miss is 0 if all came
        termsDue(x.chance(0, 1, true), x.chance(0, 1, false), 6561, 10000);
        termsDue(x.chance(0, 2, true), x.chance(0, 2, false), 256, 625);
        termsDue(x.chance(0, 4, true), x.chance(0, 4, false), 81, 625);
        termsDue(x.chance(0, 5, true), x.chance(0, 5, false), 1, 16);
        termsDue(x.chance(9999, 3, true), x.chance(9999, 3, false), 1, 1);
        termsDue(x.mean(10, true), x.mean(10, false), 46, 1);
        for (int pack = 0; pack < 4; pack++) {
            for (int d = 2; d <= 24; d++) {
                boolean both = x.share(pack, true) % d == 0 && x.share(pack, false) % d == 0;
                due("share of " + pack + " has " + d + " above and below", both ? 1 : 0, 0);
            }
        }
    }

    private void sets() {
        TwoHalves x = of(SQUARE);
        x.shift(0);
        int set = 0;
        for (int pack : new int[] {3, 0, 2, 1}) {
            x.lose(pack);
            set |= 1 << pack;
            due("packs lost", x.about(4), set);
            due("lines blank", x.about(5), set);
            due("kept", x.keep(0), set);
            due("gone on from", x.again(0), set);
        }
        TwoHalves y = of(PAIR);
        y.shift(0);
        paintLine(y, 2, 1, 1, 1, 1);
        due("no pack", y.miss(0), 0);
        due("pack 0", y.miss(1), 0);
        due("pack 2", y.miss(4), 4);
        due("packs 2 and 1", y.miss(6), 4);
        due("packs 0 and 1", y.miss(3), 8);
        due("pack 3", y.miss(8), 4);
    }
}
