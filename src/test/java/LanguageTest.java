import java.io.IOException;
import java.nio.file.Files;
import java.nio.file.Path;
import java.util.List;
import java.util.Set;
import java.util.regex.Matcher;
import java.util.regex.Pattern;

/** Some rules of LANGUAGE.md that the program's text shows; .ci/run starts it in the project's folder. */
public final class LanguageTest {
    private static final List<String> FORBIDDEN = List.of(
        "throw", "throws", "try", "catch", "finally", "synchronized", "assert", "protected",
        "volatile", "transient", "native", "strictfp", "Object", "Random", "Thread");
    private static final Set<String> LIBRARY = Set.of(
        "Arrays.fill", "System.arraycopy", "Math.abs", "Math.max", "Integer.bitCount");

    private static final Check check = new Check();

    public static void main(String[] args) throws IOException {
        String source = Files.readString(Path.of("src/main/java/TwoHalves.java"));
        String code = source.replaceAll("(?s)/\\*.*?\\*/", "").replaceAll("//[^\n]*", "");
        for (String word : FORBIDDEN) {
            check.holds("no word " + word, !Pattern.compile("\\b" + word + "\\b").matcher(code).find());
        }
        check.holds("no lambda", !code.contains("->"));
        check.holds("no method reference", !code.contains("::"));
        check.holds("no package", !Pattern.compile("\\bpackage\\b").matcher(code).find());
        check.holds("no sign above 127", source.chars().allMatch(sign -> sign < 128));
        library(code);
        objects(code);
        methodLengths(code);
        check.end("LanguageTest");
    }

    private static void library(String code) {
        Matcher imports = Pattern.compile("import ([^;]*);").matcher(code);
        while (imports.find()) {
            check.holds("import of " + imports.group(1), imports.group(1).equals("java.util.Arrays"));
        }
        Matcher calls = Pattern.compile("\\b([A-Z][A-Za-z]*\\.[a-z][A-Za-z]*)\\(").matcher(code);
        while (calls.find()) {
            check.holds("library call " + calls.group(1), LIBRARY.contains(calls.group(1)));
        }
    }

    /** All that a run makes is made with the object, so no run of calls can fill the room. */
    private static void objects(String code) {
        for (String line : code.split("\n")) {
            if (line.matches(".*\\bnew\\b.*")) {
                boolean field = line.matches("\\s*private final \\S+ \\w+ = new .*;");
                boolean constructor = line.matches("\\s*(ahead|kept)\\[\\w+] = new State\\(\\);");
                check.holds("made outside a constructor: " + line.strip(), field || constructor);
            }
        }
    }

    private static void methodLengths(String code) {
        Matcher methods = Pattern.compile("(?m)^( +)(public|private) [^;={]*\\) \\{$(?s:.*?)^\\1}$")
            .matcher(code);
        int found = 0;
        while (methods.find()) {
            found++;
            long lines = methods.group().lines().count();
            check.holds("sixty lines or less: " + methods.group().lines().findFirst(), lines <= 60);
        }
        check.holds("methods are found: " + found, found > 60);
    }
}
