import java.io.ByteArrayOutputStream;
import java.io.IOException;
import java.io.InputStream;
import java.io.OutputStream;
import java.io.Writer;
import java.lang.reflect.Constructor;
import java.lang.reflect.Method;
import java.net.URI;
import java.nio.file.Files;
import java.nio.file.Path;
import java.util.HashMap;
import java.util.HashSet;
import java.util.List;
import java.util.Map;
import java.util.Set;
import javax.tools.FileObject;
import javax.tools.ForwardingJavaFileManager;
import javax.tools.JavaCompiler;
import javax.tools.JavaFileManager;
import javax.tools.JavaFileObject;
import javax.tools.SimpleJavaFileObject;
import javax.tools.ToolProvider;

/** Breaks the program in each of the ways that Breaks tells: the tests of the sentences must see it. */
public final class BreaksTest {
    private static final List<Class<? extends Edges>> TESTS = List.of(EdgesOfTermsTest.class,
        EdgesOfAskedTest.class, EdgesOfChancesTest.class, EdgesOfRefusalsTest.class,
        EdgesOfPromisesTest.class);
    private static final Check check = new Check();
    private static final JavaCompiler compiler = ToolProvider.getSystemJavaCompiler();

    public static void main(String[] args) throws Exception {
        String program = Files.readString(Path.of("src/main/java/TwoHalves.java"));
        Map<String, String> testOf = testsOfSentences();
        Set<String> broken = new HashSet<>();
        for (Breaks.Break one : Breaks.all()) {
            String told = one.place() + ": " + one.old() + " as " + one.changed();
            String changed = changed(program, one);
            check.holds("the program has no such place: " + told, changed != null);
            Loader loader = changed == null ? null : loaderOf(changed);
            check.holds("it does not compile: " + told, changed == null || loader != null);
            for (String sentence : one.sentences()) {
                broken.add(sentence);
                check.holds("there is no sentence " + sentence, testOf.containsKey(sentence));
                if (loader != null && testOf.containsKey(sentence)) {
                    check.holds("the test of " + sentence + " does not see " + told,
                        !wrongOf(loader, testOf.get(sentence), sentence).isEmpty());
                }
            }
        }
        for (String sentence : testOf.keySet()) {
            check.holds("no break is told for " + sentence, broken.contains(sentence));
        }
        check.end("BreaksTest");
    }

    private static Map<String, String> testsOfSentences() throws Exception {
        Map<String, String> tests = new HashMap<>();
        Loader whole = new Loader(Map.of());
        for (Class<?> test : TESTS) {
            Method names = method(whole, "names");
            for (Object name : (Set<?>) names.invoke(madeBy(whole, test.getName()))) {
                check.holds("two sentences are named " + name,
                    tests.put((String) name, test.getName()) == null);
            }
        }
        return tests;
    }

    private static List<?> wrongOf(Loader loader, String test, String sentence) throws Exception {
        return (List<?>) method(loader, "wrongOf", String.class).invoke(madeBy(loader, test), sentence);
    }

    private static Method method(Loader loader, String name, Class<?>... takes) throws Exception {
        Method method = loader.loadClass("Edges").getDeclaredMethod(name, takes);
        method.setAccessible(true);
        return method;
    }

    private static Object madeBy(Loader loader, String test) throws Exception {
        Constructor<?> made = loader.loadClass(test).getDeclaredConstructor();
        made.setAccessible(true);
        return made.newInstance();
    }

    /** The program broken in one way; null, if there is no such place in it. */
    private static String changed(String program, Breaks.Break one) {
        int place = program.indexOf(one.place());
        int old = place < 0 ? -1 : program.indexOf(one.old(), place + one.place().length());
        return old < 0 ? null
            : program.substring(0, old) + one.changed() + program.substring(old + one.old().length());
    }

    /** Null, if it does not compile. */
    private static Loader loaderOf(String program) throws IOException {
        Map<String, ByteArrayOutputStream> classes = new HashMap<>();
        JavaFileObject source = new SimpleJavaFileObject(URI.create("mem:///TwoHalves.java"),
            JavaFileObject.Kind.SOURCE) {
            @Override
            public CharSequence getCharContent(boolean lenient) {
                return program;
            }
        };
        try (JavaFileManager files = new Memory(classes)) {
            boolean so = compiler.getTask(Writer.nullWriter(), files, null, List.of("-proc:none"), null,
                List.of(source)).call();
            return so ? new Loader(classes) : null;
        }
    }

    /** Classes stay in memory. */
    private static final class Memory extends ForwardingJavaFileManager<JavaFileManager> {
        private final Map<String, ByteArrayOutputStream> classes;

        Memory(Map<String, ByteArrayOutputStream> classes) {
            super(compiler.getStandardFileManager(null, null, null));
            this.classes = classes;
        }

        @Override
        public JavaFileObject getJavaFileForOutput(Location location, String name,
                JavaFileObject.Kind kind, FileObject sibling) {
            return new SimpleJavaFileObject(URI.create("mem:///" + name + ".class"), kind) {
                @Override
                public OutputStream openOutputStream() {
                    ByteArrayOutputStream bytes = new ByteArrayOutputStream();
                    classes.put(name, bytes);
                    return bytes;
                }
            };
        }
    }

    /** The tests once more, with the program that was broken. */
    private static final class Loader extends ClassLoader {
        private final Map<String, ByteArrayOutputStream> classes;

        Loader(Map<String, ByteArrayOutputStream> classes) {
            super(ClassLoader.getPlatformClassLoader());
            this.classes = classes;
        }

        @Override
        protected Class<?> findClass(String name) throws ClassNotFoundException {
            byte[] bytes = classes.containsKey(name) ? classes.get(name).toByteArray() : own(name);
            return defineClass(name, bytes, 0, bytes.length);
        }

        private static byte[] own(String name) throws ClassNotFoundException {
            String file = name.replace('.', '/') + ".class";
            try (InputStream in = BreaksTest.class.getClassLoader().getResourceAsStream(file)) {
                if (in == null) {
                    throw new ClassNotFoundException(name);
                }
                return in.readAllBytes();
            } catch (IOException thrown) {
                throw new ClassNotFoundException(name, thrown);
            }
        }
    }
}
