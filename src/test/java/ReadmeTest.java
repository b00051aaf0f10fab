import java.io.File;
import java.lang.reflect.Method;
import java.lang.reflect.Modifier;
import java.nio.file.Files;
import java.nio.file.Path;
import java.util.List;
import java.util.regex.Matcher;
import java.util.regex.Pattern;
import javax.tools.ToolProvider;

/** README.md tells each call, its refusals by their numbers, and an example that answers as it says. */
public final class ReadmeTest {
    private static final Check check = new Check();

    public static void main(String[] args) throws Exception {
        String readme = Files.readString(Path.of("README.md"));
        for (Method method : TwoHalves.class.getDeclaredMethods()) {
            if (Modifier.isPublic(method.getModifiers())) {
                Matcher row = Pattern.compile("\\| `" + method.getName() + "\\(([^)]*)\\)` \\|")
                    .matcher(readme);
                check.holds("README.md does not tell " + method, row.find()
                    && row.group(1).split("\\w+", -1).length - 1 == method.getParameterCount());
            }
        }
        refusal(readme, "UNKNOWN", TwoHalves.UNKNOWN);
        refusal(readme, "BAD", TwoHalves.BAD);
        refusal(readme, "LATE", TwoHalves.LATE);
        refusal(readme, "FULL", TwoHalves.FULL);
        check.holds("README.md does not tell NONE", readme.contains("`NONE` (" + TwoHalves.NONE + ")"));
        example(readme.substring(readme.indexOf("```java\n") + 8));
        for (String test : List.of(new File("src/test/java").list())) {
            if (test.endsWith("Test.java")) {
                check.holds("README.md does not tell " + test,
                    readme.contains("`" + test.replace(".java", "`")));
            }
        }
        check.end("ReadmeTest");
    }

    private static void refusal(String readme, String name, int number) {
        check.holds("README.md does not tell " + name,
            readme.contains("| `" + name + "` | " + number + " |"));
    }

    /** The example's own lines, each answer that it tells compared with what the call answers. */
    private static void example(String text) throws Exception {
        StringBuilder code = new StringBuilder("public final class Example {\n"
            + "public static void main(Check check) {\n");
        int told = 0;
        for (String line : text.substring(0, text.indexOf("```")).split("\n")) {
            Matcher call = Pattern.compile("(x\\..*\\));\\s+// (-?\\d+): .*").matcher(line);
            if (call.matches()) {
                told++;
                String name = call.group(1).replace("\"", "\\\"");
                code.append("check.due(\"README.md: ").append(name).append("\", ").append(call.group(1))
                    .append(", ").append(call.group(2)).append("L);\n");
            } else {
                check.holds("an answer is not told as a number: " + line, !line.contains("//"));
                code.append(line).append('\n');
            }
        }
        check.holds("README.md tells answers", told > 20);
        run(code.append("}\n}\n").toString());
    }

    private static void run(String code) throws Exception {
        Path folder = Files.createTempDirectory("readme");
        Path source = Files.writeString(folder.resolve("Example.java"), code);
        Path own = Path.of(ReadmeTest.class.getProtectionDomain().getCodeSource().getLocation().toURI());
        int exit = ToolProvider.getSystemJavaCompiler().run(null, null, null, "-cp", own.toString(),
            "-d", own.toString(), source.toString());
        Files.delete(source);
        Files.delete(folder);
        check.holds("README.md's example compiles", exit == 0);
        if (exit == 0) {
            Method main = Class.forName("Example").getDeclaredMethod("main", Check.class);
            main.invoke(null, check);
        }
    }
}
