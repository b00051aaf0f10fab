import java.io.IOException;
import java.nio.file.Files;
import java.nio.file.Path;
import java.util.HashMap;
import java.util.List;
import java.util.Map;
import java.util.Set;
import java.util.TreeSet;
import java.util.regex.Matcher;
import java.util.regex.Pattern;

/** Some rules of LANGUAGE.md that the program's text shows; .ci/run starts it in the project's folder. */
public final class LanguageTest {
    private static final List<String> FORBIDDEN = List.of(
        "throw", "throws", "try", "catch", "finally", "synchronized", "assert", "protected",
        "volatile", "transient", "native", "strictfp", "Object", "Random", "Thread");
    private static final Set<String> LIBRARY = Set.of(
        "Arrays.fill", "System.arraycopy", "Math.abs", "Math.max", "Integer.bitCount");

    private static final List<String> UNUSED = List.of(
        "double", "float", "String", "StringBuilder", "List", "instanceof", "null");

    /** Its blanks, then who sees it, its name, its parameters, its body. */
    private static final Pattern METHOD = Pattern.compile(
        "(?m)^( +)(public|private) [^;={(]*?(\\w+)\\(([^)]*)\\) \\{$((?s:.*?))^\\1}$");

    private static final Check check = new Check();

    public static void main(String[] args) throws IOException {
        String source = Files.readString(Path.of("src/main/java/TwoHalves.java"));
        String code = source.replaceAll("(?s)/\\*.*?\\*/", "").replaceAll("//[^\n]*", "");
        for (String word : FORBIDDEN) {
            check.holds("no word " + word, !Pattern.compile("\\b" + word + "\\b").matcher(code).find());
        }
        check.holds("no lambda", !code.contains("->"));
        check.holds("no method reference", !code.contains("::"));
        check.holds("no package", !Pattern.compile("\\bpackage\\b").matcher(code).find());
        check.holds("no sign above 127", source.chars().allMatch(sign -> sign < 128));
        library(code);
        objects(code);
        shapes(code);
        methodLengths(code);
        depths(code);
        check.end("LanguageTest");
    }

    private static void library(String code) {
        Matcher imports = Pattern.compile("import ([^;]*);").matcher(code);
        while (imports.find()) {
            check.holds("import of " + imports.group(1), imports.group(1).equals("java.util.Arrays"));
        }
        Matcher calls = Pattern.compile("\\b([A-Z][A-Za-z]*\\.[a-z][A-Za-z]*)\\(").matcher(code);
        while (calls.find()) {
            check.holds("library call " + calls.group(1), LIBRARY.contains(calls.group(1)));
        }
    }

    /** All that a run makes is made with the object, so no run of calls can fill the room. */
    private static void objects(String code) {
        for (String line : code.split("\n")) {
            if (line.matches(".*\\bnew\\b.*")) {
                boolean field = line.matches("\\s*private final \\S+ \\w+ = new .*;");
                boolean constructor = line.matches("\\s*(ahead|kept)\\[\\w+] = new State\\(\\);");
                check.holds("made outside a constructor: " + line.strip(), field || constructor);
            }
        }
    }

    /** Rules 3, 5, 9: what the program has no need of, so that nothing of it must be looked at closer. */
    private static void shapes(String code) {
        for (String word : UNUSED) {
            check.holds("no word " + word, !Pattern.compile("\\b" + word + "\\b").matcher(code).find());
        }
        String withoutHeads = code.replaceAll("(if|for|while|switch) \\(\\w+\\)", "");
        check.holds("no cast but to int",
            !Pattern.compile("\\((?!int\\))[A-Za-z]+\\) ?[a-z(]").matcher(withoutHeads).find());
        check.holds("no loop without a condition",
            !Pattern.compile("while \\(true\\)|for \\([^;]*;\\s*;").matcher(code).find());
        check.holds("no static block", !Pattern.compile("\\bstatic \\{").matcher(code).find());
    }

    private static void methodLengths(String code) {
        Matcher methods = METHOD.matcher(code);
        int found = 0;
        while (methods.find()) {
            found++;
            long lines = methods.group().lines().count();
            check.holds("sixty lines or less: " + methods.group(3), lines <= 60);
            check.holds("seven parameters or fewer: " + methods.group(3),
                methods.group(4).split(",").length <= 7);
        }
        check.holds("methods are found: " + found, found > 60);
    }

    /** By names alone, so methods of one name in two classes count as one that does what both do. */
    private static void depths(String code) {
        Map<String, Set<String>> calls = new HashMap<>();
        Matcher methods = METHOD.matcher(code);
        while (methods.find()) {
            Set<String> called = calls.computeIfAbsent(methods.group(3), name -> new TreeSet<>());
            Matcher names = Pattern.compile("\\b(\\w+)\\(").matcher(methods.group(5));
            while (names.find()) {
                called.add(names.group(1));
            }
        }
        for (String name : calls.keySet()) {
            int depth = depth(name, calls, 1);
            check.holds("at most eight calls deep, none of itself: " + name + ", " + depth, depth <= 8);
        }
    }

    private static int depth(String name, Map<String, Set<String>> calls, int level) {
        if (!calls.containsKey(name)) {
            return 0;
        }
        int deepest = 0;
        for (String called : level > 20 ? Set.<String>of() : calls.get(name)) {
            deepest = Math.max(deepest, depth(called, calls, level + 1));
        }
        return 1 + deepest;
    }
}
