import java.io.IOException;
import java.nio.file.Files;
import java.nio.file.Path;
import java.util.ArrayList;
import java.util.LinkedHashMap;
import java.util.List;
import java.util.Map;
import java.util.Set;

/**
 * Sentences of the document that name an edge, each with a test of its own. A sentence is told in
 * the document's own words, and has a name, by which BreaksTest asks whether its test alone sees it
 * broken.
 */
abstract class Edges {
    static final int UNKNOWN = -1, BAD = -2, LATE = -3, FULL = -4, NONE = -9;
    static final int LOW = Integer.MIN_VALUE, HIGH = Integer.MAX_VALUE;

    /** Rows {0, 1}, {2, 3} guess 0, 2; columns {0, 2}, {1, 3} guess 1, 2. */
    static final String SQUARE = "M22i00i01i10i11";
    /** The row {0, 1} guesses 0, columns are exact. */
    static final String PAIR = "M12i00i01";
    /** Rows {0, 1, 2}, {3, 4, 5} guess 1, 4; columns {0, 3}, {1, 4}, {2, 5} guess 1, 2, 3. */
    static final String SIX = "M23i00i01i02i10i11i12";

    private final Map<String, String> words = new LinkedHashMap<>();
    private final Map<String, Runnable> tests = new LinkedHashMap<>();
    private final List<String> wrong = new ArrayList<>();
    private int asked;

    final void says(String name, String sentence, Runnable test) {
        if (words.put(name, sentence) != null) {
            throw new IllegalStateException("two sentences are named " + name);
        }
        tests.put(name, test);
    }

    final Set<String> names() {
        return tests.keySet();
    }

    /** The wrong answers of one sentence; a program that throws is wrong too. */
    final List<String> wrongOf(String name) {
        wrong.clear();
        asked = 0;
        try {
            tests.get(name).run();
        } catch (RuntimeException thrown) {
            wrong.add("the program threw " + thrown);
        }
        if (asked == 0) {
            wrong.add("nothing was asked");
        }
        return wrong;
    }

    final void end() throws IOException {
        String document = Files.readString(Path.of("../shared/DOC.md")).replaceAll("\\s+", " ");
        Check check = new Check();
        for (String name : tests.keySet()) {
            check.holds("the document does not say: " + words.get(name),
                document.contains(words.get(name)));
            for (String row : wrongOf(name)) {
                check.holds(name + " (" + words.get(name) + "): " + row, false);
            }
            check.count(asked - wrong.size());
        }
        System.out.println(tests.size() + " sentences");
        check.end(getClass().getSimpleName());
    }

    final void due(String call, long got, long want) {
        asked++;
        if (got != want) {
            wrong.add(call + " answered " + got + ", due is " + want);
        }
    }

    final void same(String what, String got, String want) {
        asked++;
        if (!got.equals(want)) {
            wrong.add(what + " stands as " + got + ", due is " + want);
        }
    }

    // ---- objects to ask

    static TwoHalves written(String text) {
        TwoHalves x = new TwoHalves();
        write(x, text);
        return x;
    }

    static void write(TwoHalves x, String text) {
        for (int i = 0; i < text.length(); i++) {
            x.write(text.charAt(i));
        }
    }

    static TwoHalves of(String map) {
        TwoHalves x = written(map);
        x.map();
        return x;
    }

    /** A map of so many shades, row by row. */
    static String table(int rows, int columns, int shades) {
        StringBuilder map = new StringBuilder("M").append(rows).append(columns);
        for (int s = 0; s < shades; s++) {
            map.append('i').append(s / columns).append(s % columns);
        }
        return map.toString();
    }

    static void paintLine(TwoHalves x, int line, int... shades) {
        for (int dot = 0; dot < shades.length; dot++) {
            x.paint(line, dot, shades[dot]);
        }
    }

    /** Dot 0 of each line told. */
    static void paintDown(TwoHalves x, int... shades) {
        for (int line = 0; line < shades.length; line++) {
            x.paint(line, 0, shades[line]);
        }
    }

    static void loseAll(TwoHalves x, int... packs) {
        for (int pack : packs) {
            x.lose(pack);
        }
    }

    /** All that can be asked for without changing it, and THE SEED. */
    static String stand(TwoHalves x) {
        StringBuilder all = new StringBuilder();
        for (int what = 0; what < 15; what++) {
            all.append(x.about(what)).append(' ');
        }
        int shades = x.about(2);
        for (int s = 0; s < shades; s++) {
            all.append(x.shade(s, 0)).append(x.shade(s, 1)).append(' ');
        }
        for (int i = 0; i < 16; i++) {
            all.append(x.dot(i / 4, i % 4, false)).append(' ');
        }
        long seed = x.seed(0);
        x.seed(seed);
        return all.append(x.which()).append(' ').append(x.fault()).append(' ').append(seed).toString();
    }
}
