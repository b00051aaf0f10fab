import java.util.ArrayList;
import java.util.List;

/** Counts wrong answers and tells each. */
final class Check {
    private int asked = 0;
    private final List<String> wrong = new ArrayList<>();

    void due(String call, long got, long want) {
        asked++;
        if (got != want) {
            wrong.add(call + " answered " + got + ", due is " + want);
        }
    }

    void holds(String what, boolean so) {
        asked++;
        if (!so) {
            wrong.add(what);
        }
    }

    void count(int right) {
        asked += right;
    }

    void end(String test) {
        for (int i = 0; i < Math.min(40, wrong.size()); i++) {
            System.out.println(wrong.get(i));
        }
        System.out.println(test + ": " + asked + " asked, " + wrong.size() + " wrong");
        if (!wrong.isEmpty()) {
            System.exit(1);
        }
    }
}
