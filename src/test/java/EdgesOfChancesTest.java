import java.io.IOException;
import java.math.BigInteger;

/** The edges that part 3 of the document names: seen, which, shares, chances, drawn, slots. */
public final class EdgesOfChancesTest extends Edges {
    EdgesOfChancesTest() {
        says("seenValue", "SEEN: that what comes out of a DOT of a LINE is v (0 .. 19),", this::seenValue);
        says("seenLost", "if an unknown set of PACKS is LOST (those alone),", this::seenLost);
        says("seenNow", "as all else is when that is asked (not when it was told):", this::seenNow);
        says("seenSix", "never more than 6, none at first.", this::seenSix);
        says("whichAll", "WHICH: the sets of PACKS by which all that is SEEN is so,", this::whichAll);
        says("whichBits", "as bits (bit 0 for the empty set, bit 5 for PACKS 0 and 2; an int).",
            this::whichBits);
        says("share", "SHARE of a PACK: if PACKS come one by one (others are LOST), in each order as "
            + "likely: by how much less MISS is in the mean when it has come: a FRACTION.", this::share);
        says("chanceTenths", "CHANCE: each PACK is LOST by x tenths (0 .. 10), by itself",
            this::chanceTenths);
        says("chanceAside", "(how it is now set aside):", this::chanceAside);
        says("chanceOrLess", "that MISS is m (0 .. 9999) or less: a FRACTION.", this::chanceOrLess);
        says("mean", "MEAN: MISS in the mean by that: a FRACTION.", this::mean);
        says("drawnTimes", "DRAWN by THE SEED: m times (1 .. 20)", this::drawnTimes);
        says("seedFirst", "x (THE SEED, a long; 0 at first)", this::seedFirst);
        says("seedWraps", "becomes x * 6364136223846793005L + 1442695040888963407L (64 bits, wrapping);",
            this::seedWraps);
        says("drawnDot", "v is (int) (x >>> 33): if there are SHADES, DOT v % 4 of LINE v / 4 % 4 is SHADE "
            + "v / 16 % (how many SHADES), from then on;", this::drawnDot);
        says("drawnAdded", "MISS behind that, each time, added up.", this::drawnAdded);
        says("drawnChanges", "(Nothing changes but THE SEED.)", this::drawnChanges);
        says("slots", "SLOTS 0 .. 1 keep where SHADES are, DOTS, SHIFT, PACKS that are LOST", this::slots);
        says("slotsNoActs", "(no ACTS when one goes on).", this::slotsNoActs);
    }

    public static void main(String[] args) throws IOException {
        new EdgesOfChancesTest().end();
    }

    /** Shift 0, columns exact, dot 0 of each line told: a line is as it is told, or blank. */
    private static TwoHalves lines(int... down) {
        TwoHalves x = of(table(1, 6, 6));
        x.shift(0);
        paintDown(x, down);
        return x;
    }

    private static void seeDown(TwoHalves x, int... values) {
        for (int line = 0; line < values.length; line++) {
            x.see(line, 0, values[line]);
        }
    }

    // ---- seen

    private void seenValue() {
        TwoHalves x = of(table(6, 6, 20));
        x.paint(2, 3, 19);
        due("-1", x.see(2, 3, -1), BAD);
        due("20", x.see(2, 3, 20), BAD);
        due("low", x.see(2, 3, LOW), BAD);
        due("high", x.see(2, 3, HIGH), BAD);
        due("nothing is seen", x.about(13), 0);
        due("0", x.see(0, 0, 0), 1);
        due("19", x.see(2, 3, 19), 2);
        due("by the empty set it is so", x.which() & 1, 1);
        x.paint(2, 3, 18);
        due("18 is not 19", x.which() & 1, 0);
        due("more than there are shades", new TwoHalves().see(0, 0, 19), 1);
    }

    private void seenLost() {
        TwoHalves x = lines(1, 4, 0, 5);
        x.see(0, 0, 1);
        due("pack 0 came", x.which(), 0x5555);
        for (int pack = 0; pack < 4; pack++) {
            x.lose(pack);
            due("whatever is lost now", x.which(), 0x5555);
        }
        due("lost stays", x.about(4), 15);
    }

    private void seenNow() {
        TwoHalves x = lines(1, 4, 0, 5);
        x.see(1, 0, 3);
        // blank, with packs 0 and 3 there and pack 2 not: half of 6
        due("packs 1 and 2 alone lost", x.which(), 1 << 6);
        x.paint(1, 0, 3);
        // it came, or it is as it was
        due("by the dot that is now", x.which(), 0x3333 | 1 << 6);
        x.shift(1);
        // its row is in pack 1, its column, which alone tells 3, in pack 0
        due("by the shift that is now", x.which() & 15, 0b0101);
        x.undo();
        x.undo();
        due("undone", x.which(), 1 << 6);
        x.wipe();
        write(x, "M11i00");
        x.map();
        due("by the map that is now", x.which(), 0);
    }

    private void seenSix() {
        TwoHalves x = new TwoHalves();
        due("none at first", x.about(13), 0);
        due("none at first to unsee", x.unsee(), 0);
        for (int i = 1; i <= 6; i++) {
            due("see", x.see(i % 4, i % 3, i), i);
            due("so much is seen", x.about(13), i);
        }
        due("the seventh", x.see(0, 0, 0), FULL);
        due("six", x.about(13), 6);
        due("six to unsee", x.unsee(), 6);
        due("the first again", x.see(0, 0, 0), 1);
    }

    private void whichAll() {
        TwoHalves x = lines(1, 4, 0, 5);
        due("nothing seen", x.which(), 65535);
        x.see(0, 0, 1);
        due("pack 0 came", x.which(), 0x5555);
        x.see(3, 0, 5);
        due("pack 3 too", x.which(), 0x0055);
        x.see(1, 0, 4);
        due("pack 1 too", x.which(), 0x0011);
        x.see(2, 0, 4);
        due("pack 2 alone lost", x.which(), 0x0010);
        x.see(2, 1, 0);
        due("a dot that is so anyway", x.which(), 0x0010);
        x.see(2, 1, 1);
        due("no set", x.which(), 0);
    }

    private void whichBits() {
        TwoHalves x = lines(1, 4, 0, 5);
        seeDown(x, 1, 4, 0, 5);
        due("the empty set", x.which(), 1);
        x.unsee();
        seeDown(x, 4, 4, 0, 5);
        due("pack 0", x.which(), 1 << 1);
        x.unsee();
        seeDown(x, 4, 4, 4, 5);
        due("packs 0 and 2", x.which(), 1 << 5);
        TwoHalves y = lines(1, 4, 2, 5);
        seeDown(y, 0, 0, 0, 0);
        due("all four", y.which(), 1 << 15);
        y.unsee();
        seeDown(y, 5, 5, 5, 5);
        due("packs 0, 1, 2", y.which(), 1 << 7);
    }

    // ---- shares, chances

    /** 24 times the share of a pack, by each of the orders. */
    private static int byOrders(TwoHalves x, int pack) {
        int sum = 0;
        for (int code = 0; code < 256; code++) {
            int[] order = {code & 3, code >> 2 & 3, code >> 4 & 3, code >> 6 & 3};
            int lost = 15;
            for (int next : order) {
                lost &= ~(1 << next);
            }
            if (lost != 0) {
                continue;
            }
            lost = 15;
            for (int place = 0; order[place] != pack; place++) {
                lost ^= 1 << order[place];
            }
            sum += x.miss(lost) - x.miss(lost ^ 1 << pack);
        }
        return sum;
    }

    private void shareDue(TwoHalves x, int pack, int above, int below) {
        due("share of " + pack + " above", x.share(pack, true), above);
        due("share of " + pack + " below", x.share(pack, false), below);
        due("by each order", byOrders(x, pack) * below, 24 * above);
    }

    private void share() {
        TwoHalves x = of(PAIR);
        x.shift(0);
        x.paint(1, 0, 1);
        shareDue(x, 0, 1, 2);
        shareDue(x, 1, -1, 6);
        shareDue(x, 2, 1, 3);
        shareDue(x, 3, 1, 3);
        due("all of them: 1 less 0", x.miss(15) - x.miss(0), 1);
        TwoHalves y = new TwoHalves();
        shareDue(y, 0, 0, 1);
        TwoHalves z = of(PAIR);
        z.shift(0);
        paintLine(z, 0, 1, 1, 1, 1);
        // pack 0 takes 4 away from line 0; if it comes first, it puts 4 on each of the others
        shareDue(z, 0, 1, 1);
    }

    private void chanceDue(TwoHalves x, int m, int tenths, int above, int below) {
        String call = "chance(" + m + ", " + tenths + ")";
        due(call + " above", x.chance(m, tenths, true), above);
        due(call + " below", x.chance(m, tenths, false), below);
    }

    private void chanceTenths() {
        TwoHalves y = lines(1, 4, 2, 5);
        due("-1", y.chance(0, -1, true), BAD);
        due("11", y.chance(0, 11, true), BAD);
        chanceDue(y, 9999, 0, 1, 1);
        chanceDue(y, 9999, 10, 1, 1);
        // all of them must come
        chanceDue(y, 0, 0, 1, 1);
        chanceDue(y, 0, 1, 6561, 10000);
        chanceDue(y, 0, 5, 1, 16);
        chanceDue(y, 0, 9, 1, 10000);
        chanceDue(y, 0, 10, 0, 1);
    }

    private void chanceAside() {
        TwoHalves x = lines(1, 4, 2, 5);
        for (int pack = 0; pack < 4; pack++) {
            x.lose(pack);
            chanceDue(x, 0, 5, 1, 16);
            chanceDue(x, 0, 0, 1, 1);
        }
        due("lost stays", x.about(4), 15);
    }

    private void chanceOrLess() {
        TwoHalves x = of(PAIR);
        paintLine(x, 3, 1, 1, 1, 1);
        x.shift(0);
        due("all lost: 4", x.miss(15), 4);
        due("-1", x.chance(-1, 10, true), BAD);
        chanceDue(x, 0, 10, 0, 1);
        chanceDue(x, 3, 10, 0, 1);
        chanceDue(x, 4, 10, 1, 1);
        chanceDue(x, 5, 10, 1, 1);
        chanceDue(x, 9999, 10, 1, 1);
        due("10000", x.chance(10000, 10, true), BAD);
        TwoHalves y = of(table(6, 6, 20));
        for (int i = 0; i < 16; i++) {
            y.paint(i / 4, i % 4, 19);
        }
        due("all lost: the most there can be", y.miss(15), 5776);
        chanceDue(y, 5775, 10, 0, 1);
        chanceDue(y, 5776, 10, 1, 1);
    }

    private void meanDue(TwoHalves x, int tenths, int above, int below) {
        due("mean(" + tenths + ") above", x.mean(tenths, true), above);
        due("mean(" + tenths + ") below", x.mean(tenths, false), below);
    }

    private void mean() {
        TwoHalves x = of(PAIR);
        paintLine(x, 3, 1, 1, 1, 1);
        x.shift(0);
        due("-1", x.mean(-1, true), BAD);
        due("11", x.mean(11, true), BAD);
        meanDue(x, 0, 0, 1);
        meanDue(x, 10, 4, 1);
        // pack 3 lost: 4; else 4 for each line that is blank and has line 3 for its down alone, or
        // (0 + 1) / 2 = 0 for one between: {0,1,2}: 12, {0,1}: 0, so 4 * 8 + 12 over 16
        meanDue(x, 5, 11, 4);
        // 4 * 1000 + 12 * 9 over 10000
        meanDue(x, 1, 1027, 2500);
        x.lose(1);
        meanDue(x, 1, 1027, 2500);
        TwoHalves y = of(table(6, 6, 20));
        for (int i = 0; i < 16; i++) {
            y.paint(i / 4, i % 4, 19);
        }
        meanDue(y, 10, 5776, 1);
        meanDue(new TwoHalves(), 7, 0, 1);
    }

    // ---- drawn

    private static long next(long x) {
        return BigInteger.valueOf(x).multiply(new BigInteger("6364136223846793005"))
            .add(new BigInteger("1442695040888963407")).longValue();
    }

    private void drawnTimes() {
        TwoHalves x = of(PAIR);
        due("-1", x.drawn(-1), BAD);
        due("0", x.drawn(0), BAD);
        due("21", x.drawn(21), BAD);
        due("low", x.drawn(LOW), BAD);
        due("high", x.drawn(HIGH), BAD);
        due("none was drawn", x.seed(0), 0);
        for (int m : new int[] {1, 2, 19, 20}) {
            x.seed(0);
            due("nothing lost", x.drawn(m), 0);
            long seed = 0;
            for (int i = 0; i < m; i++) {
                seed = next(seed);
            }
            due("the seed behind " + m, x.seed(0), seed);
        }
    }

    private void seedFirst() {
        TwoHalves x = new TwoHalves();
        due("at first", x.seed(0), 0);
        TwoHalves y = new TwoHalves();
        y.drawn(1);
        due("drawn once from 0", y.seed(Long.MIN_VALUE), 1442695040888963407L);
        due("a long, the least", y.seed(Long.MAX_VALUE), Long.MIN_VALUE);
        due("a long, the greatest", y.seed(1L << 32), Long.MAX_VALUE);
        due("a long", y.seed(0), 1L << 32);
    }

    private void seedWraps() {
        TwoHalves x = new TwoHalves();
        long[] seeds = {0, 1, -1, 2, 3, Long.MAX_VALUE, Long.MIN_VALUE, 1L << 33, -7};
        for (long seed : seeds) {
            x.seed(seed);
            x.drawn(1);
            due("behind " + seed, x.seed(0), next(seed));
        }
        due("by hand: 0", next(0), 1442695040888963407L);
        due("by hand: 1", next(1), 7806831264735756412L);
        due("by hand: 2 wraps", next(2), -4275776585127002199L);
    }

    /** Drawn told once more by dots painted on another object. */
    private void drawnDue(String map, long seed, int m, int... lost) {
        TwoHalves x = of(map);
        TwoHalves y = of(map);
        loseAll(x, lost);
        loseAll(y, lost);
        x.seed(seed);
        int sum = 0;
        long s = seed;
        for (int i = 0; i < m; i++) {
            s = next(s);
            int v = (int) (s >>> 33);
            int shades = y.about(2);
            if (shades > 0) {
                y.paint(v / 4 % 4, v % 4, v / 16 % shades);
            }
            sum += y.about(6);
        }
        due("drawn(" + m + ") of " + map + " by " + seed, x.drawn(m), sum);
    }

    private void drawnDot() {
        drawnDue("M66", 0, 20, 0, 1);
        drawnDue("M66i00", 0, 20, 0, 1);
        for (int n : new int[] {2, 3, 7, 16, 19, 20}) {
            drawnDue(table(6, 6, n), 0, 20, 0, 1, 2, 3);
            drawnDue(table(6, 6, n), -1, 20, 1);
            drawnDue(table(6, 6, n), Long.MIN_VALUE, 1, 0, 1, 2, 3);
            drawnDue(table(6, 6, n), 1234567890123L, 9, 0, 2);
        }
        TwoHalves x = of(PAIR);
        loseAll(x, 0, 1, 2, 3);
        // dots (3, 3), (2, 0), (0, 1), (1, 0) are 1, 0, 1, 1; all come out as 0
        due("by hand", x.drawn(4), 1 + 1 + 2 + 3);
        x.paint(0, 0, 1);
        drawnOnce(x, -7379792620528906219L, 0L, 0);
        drawnOnce(x, 4483922187169113968L, (1L << 33) - 1, 0);
        // dot (0, 1) is 0, as it was
        drawnOnce(x, -84997745826115563L, 1L << 33, 1);
        // dot (3, 3) is 1, v being the greatest that there is
        drawnOnce(x, -2810872687533676688L, -1L, 2);
        // dot (3, 3) is 1 too, v being half of that; dot (0, 0) is 0
        drawnOnce(x, 6412499349321099120L, Long.MAX_VALUE, 2);
        drawnOnce(x, 1843579416325869589L, Long.MIN_VALUE, 0);
    }

    private void drawnOnce(TwoHalves x, long seed, long then, int want) {
        x.seed(seed);
        due("drawn(1) by " + seed, x.drawn(1), want);
        due("the seed then", x.seed(0), then);
    }

    private void drawnAdded() {
        TwoHalves x = of(PAIR);
        loseAll(x, 0, 1, 2, 3);
        due("1", x.drawn(1), 1);
        x.seed(0);
        due("1 and 1", x.drawn(2), 2);
        x.seed(0);
        due("1 and 1 and 2", x.drawn(3), 4);
        x.seed(0);
        due("1 and 1 and 2 and 3", x.drawn(4), 7);
        x.seed(0);
        x.paint(2, 2, 1);
        due("by the picture that is now", x.drawn(2), 4);
    }

    private void drawnChanges() {
        TwoHalves x = of(SIX);
        paintLine(x, 1, 1, 2, 3, 4);
        x.lose(1);
        x.see(1, 1, 2);
        x.keep(0);
        x.seed(5);
        String before = stand(x);
        due("drawn", x.drawn(20) > 0 ? 1 : 0, 1);
        long seed = 5;
        for (int i = 0; i < 20; i++) {
            seed = next(seed);
        }
        due("the seed", x.seed(5), seed);
        same("all but it", stand(x), before);
        int once = x.drawn(3);
        x.seed(5);
        due("dots drawn are gone when it is drawn again", x.drawn(3), once);
        due("what was kept", x.again(0), 2);
        x.seed(5);
        due("drawn from what was kept", x.drawn(3), once);
    }

    // ---- slots

    private void slots() {
        TwoHalves x = of("M33i00i11i22");
        due("keep(-1)", x.keep(-1), UNKNOWN);
        due("keep(2)", x.keep(2), UNKNOWN);
        due("again(-1)", x.again(-1), UNKNOWN);
        due("again(2)", x.again(2), UNKNOWN);
        due("keep(0)", x.keep(0), 0);
        due("slot 1 is not kept by that", x.again(1), LATE);
        x.change(0, 2);
        x.paint(3, 3, 1);
        x.shift(3);
        x.lose(0);
        x.lose(3);
        due("keep(1)", x.keep(1), 9);
        due("again(0)", x.again(0), 0);
        due("rows, columns, dots, shift, lost of 0", figures(x), 20010);
        due("again(1)", x.again(1), 9);
        due("rows, columns, dots, shift, lost of 1", figures(x), 2139);
        due("again(0) once more", x.again(0), 0);
        due("rows, columns, dots, shift, lost of 0 once more", figures(x), 20010);
    }

    /** The row of shade 2, the column of shade 0, the last dot, shift, packs lost, a figure each. */
    private static int figures(TwoHalves x) {
        return 10000 * x.shade(2, 0) + 1000 * x.shade(0, 1) + 100 * x.dot(3, 3, false)
            + 10 * x.about(3) + x.about(4);
    }

    private void slotsNoActs() {
        TwoHalves x = of(PAIR);
        x.lose(2);
        x.keep(1);
        due("acts stay when it is kept", x.about(12), 1);
        x.shift(3);
        due("two", x.about(12), 2);
        x.again(1);
        due("none when one goes on", x.about(12), 0);
        due("nothing to undo", x.undo(), LATE);
        due("lost as kept", x.about(4), 4);
        x.lose(2);
        due("an act behind it", x.undo(), 0);
        due("lost as kept again", x.about(4), 4);
        due("no more", x.undo(), LATE);
    }
}
