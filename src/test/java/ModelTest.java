import java.util.Random;

/** Runs of calls made by a fixed seed, each answer compared with the model's. */
public final class ModelTest {
    private static final int RUNS = 1500;
    private static final int CALLS = 512;
    private static final int[] EDGES = {
        Integer.MIN_VALUE, -10, -9, -2, -1, 4, 5, 6, 15, 16, 20, 21, 256, 10000, Integer.MAX_VALUE};

    private final Random random;
    private final int run;
    private final TwoHalves x = new TwoHalves();
    private final Model y = new Model();
    private int calls = 0;
    private int wrong = 0;

    private ModelTest(int run) {
        this.run = run;
        this.random = new Random(1000L + run);
    }

    public static void main(String[] args) {
        int wrong = 0;
        for (int run = 0; run < RUNS && wrong < 20; run++) {
            ModelTest test = new ModelTest(run);
            test.goOn();
            wrong += test.wrong;
        }
        System.out.println("ModelTest: " + RUNS + " runs, " + wrong + " wrong");
        if (wrong != 0) {
            System.exit(1);
        }
    }

    private void goOn() {
        if (run % 5 != 0) {
            writeMap();
        }
        while (calls < CALLS && wrong == 0) {
            call();
        }
    }

    private void due(String call, long got, long want) {
        calls++;
        if (got != want) {
            wrong++;
            System.out.println("run " + run + ", call " + calls + ": " + call + " answered " + got
                + ", the model " + want);
        }
    }

    private void writeMap() {
        String map = someMap();
        if (calls + map.length() + 3 > CALLS) {
            return;
        }
        due("wipe()", x.wipe(), y.wipe());
        for (int i = 0; i < map.length(); i++) {
            writeLetter(map.charAt(i));
        }
        due("fault()", x.fault(), y.fault());
        due("map()", x.map(), y.map());
    }

    private void writeLetter(int letter) {
        due("write(" + letter + ")", x.write(letter), y.write(letter));
    }

    private String someMap() {
        int rows = 1 + random.nextInt(6);
        int columns = 1 + random.nextInt(6);
        StringBuilder map = new StringBuilder().append('M').append(rows).append(columns);
        int shades = random.nextInt(Math.min(20, rows * columns) + 1);
        if (random.nextInt(3) == 0) {
            shades = Math.min(20, rows * columns);
        }
        boolean[] told = new boolean[36];
        for (int s = 0; s < shades; ) {
            int row = random.nextInt(rows);
            int column = random.nextInt(columns);
            if (!told[row * 6 + column]) {
                told[row * 6 + column] = true;
                map.append('i').append(row).append(column);
                s++;
            }
        }
        if (random.nextInt(4) == 0) {
            map.setCharAt(random.nextInt(map.length()), someLetter());
        }
        if (random.nextInt(4) == 0) {
            map.append("i").append(random.nextInt(7));
        }
        return map.toString();
    }

    private char someLetter() {
        return random.nextInt(8) == 0 ? (char) random.nextInt(256) : "Mi01234567".charAt(random.nextInt(10));
    }

    /** Mostly 0 .. end less 1. */
    private int some(int end) {
        return random.nextInt(25) == 0 ? EDGES[random.nextInt(EDGES.length)] : random.nextInt(end);
    }

    private int someShade() {
        int shades = y.about(2);
        return some(shades == 0 || random.nextInt(12) == 0 ? 21 : shades);
    }

    private long someDoings(int n) {
        long row = 0;
        for (int i = 0; i < Math.max(1, Math.min(n, 5)); i++) {
            row = row * 1000 + someDoing();
        }
        switch (random.nextInt(40)) {
            case 0: return -row;
            case 1: return random.nextLong();
            case 2: return row * 1000;
            default: return row;
        }
    }

    private int someDoing() {
        if (random.nextInt(30) == 0) {
            return random.nextInt(1000);
        }
        switch (random.nextInt(6)) {
            case 0: return 100 + random.nextInt(4);
            case 1: return 200 + random.nextInt(4);
            case 2: return 300 + 10 * random.nextInt(4) + random.nextInt(4);
            case 3: return 400 + random.nextInt(4);
            case 4: return 500 + 10 * random.nextInt(10) + random.nextInt(10);
            default: return 600 + random.nextInt(100);
        }
    }

    private void call() {
        switch (random.nextInt(10)) {
            case 0: callText(); break;
            case 1: case 2: case 3: callAct(); break;
            case 4: case 5: callMapAsked(); break;
            case 6: callSeen(); break;
            case 7: callChances(); break;
            default: callAsked(); break;
        }
    }

    private void callText() {
        switch (random.nextInt(40)) {
            case 0: writeMap(); break;
            case 1: due("wipe()", x.wipe(), y.wipe()); break;
            case 2: due("map()", x.map(), y.map()); break;
            default:
                if (random.nextInt(3) == 0) {
                    due("fault()", x.fault(), y.fault());
                } else {
                    writeLetter(random.nextInt(8) == 0 ? some(256) : someLetter());
                }
        }
    }

    private void callAct() {
        int a = someShade();
        int b = someShade();
        int i = some(4);
        int j = some(4);
        int row = some(6);
        int column = some(6);
        switch (random.nextInt(8)) {
            case 0: due("change(" + a + ", " + b + ")", x.change(a, b), y.change(a, b)); break;
            case 1:
                due("move(" + a + ", " + row + ", " + column + ")",
                    x.move(a, row, column), y.move(a, row, column));
                break;
            case 2: due("lay(" + row + ")", x.lay(row), y.lay(row)); break;
            case 3: case 4:
                due("paint(" + i + ", " + j + ", " + a + ")", x.paint(i, j, a), y.paint(i, j, a));
                break;
            case 5: due("shift(" + i + ")", x.shift(i), y.shift(i)); break;
            case 6: due("lose(" + i + ")", x.lose(i), y.lose(i)); break;
            default: due("undo()", x.undo(), y.undo()); break;
        }
    }

    private void callMapAsked() {
        int a = someShade();
        int i = some(4);
        int j = some(4);
        int row = some(6);
        int column = some(6);
        int what = some(4);
        boolean out = random.nextBoolean();
        switch (random.nextInt(5)) {
            case 0: due("shade(" + a + ", " + what + ")", x.shade(a, what), y.shade(a, what)); break;
            case 1: due("cell(" + row + ", " + column + ")", x.cell(row, column), y.cell(row, column)); break;
            case 2: due("guess(" + what / 2 + ", " + row + ")", x.guess(what / 2, row), y.guess(what / 2, row)); break;
            case 3: due("guess(" + what + ", " + row + ")", x.guess(what, row), y.guess(what, row)); break;
            default: due("dot(" + i + ", " + j + ", " + out + ")", x.dot(i, j, out), y.dot(i, j, out)); break;
        }
    }

    private void callSeen() {
        int i = some(4);
        int j = some(4);
        switch (random.nextInt(8)) {
            case 0: due("unsee()", x.unsee(), y.unsee()); break;
            case 1: case 2: case 3: due("which()", x.which(), y.which()); break;
            default:
                // what comes out by some set, so that sets are left more often than by chance
                int v = random.nextBoolean() ? some(20) : y.dot(i, j, true);
                due("see(" + i + ", " + j + ", " + v + ")", x.see(i, j, v), y.see(i, j, v));
        }
    }

    private void callChances() {
        int pack = some(4);
        int tenths = some(11);
        int m = some(random.nextBoolean() ? 200 : 3000);
        long v = random.nextLong();
        int times = 1 + some(20);
        boolean upper = random.nextBoolean();
        switch (random.nextInt(5)) {
            case 0: due("share(" + pack + ", " + upper + ")", x.share(pack, upper), y.share(pack, upper)); break;
            case 1:
                due("chance(" + m + ", " + tenths + ", " + upper + ")",
                    x.chance(m, tenths, upper), y.chance(m, tenths, upper));
                break;
            case 2: due("mean(" + tenths + ", " + upper + ")", x.mean(tenths, upper), y.mean(tenths, upper)); break;
            case 3: due("seed(" + v + ")", x.seed(v), y.seed(v)); break;
            default: due("drawn(" + times + ")", x.drawn(times), y.drawn(times)); break;
        }
    }

    private void callAsked() {
        int what = some(15);
        int set = some(16);
        int n = random.nextInt(10) == 0 ? some(6) : 1 + random.nextInt(4);
        long row = someDoings(n);
        int slot = some(2);
        switch (random.nextInt(20)) {
            case 0: due("miss(" + set + ")", x.miss(set), y.miss(set)); break;
            case 1: case 2: due("judge(" + n + ", " + row + ")", x.judge(n, row), y.judge(n, row)); break;
            case 3: due("keep(" + slot + ")", x.keep(slot), y.keep(slot)); break;
            case 4: due("again(" + slot + ")", x.again(slot), y.again(slot)); break;
            default: due("about(" + what + ")", x.about(what), y.about(what)); break;
        }
    }
}
