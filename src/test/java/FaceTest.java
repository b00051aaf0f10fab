import java.lang.reflect.Constructor;
import java.lang.reflect.Field;
import java.lang.reflect.Method;
import java.lang.reflect.Modifier;
import java.util.Arrays;
import java.util.Set;
import java.util.TreeSet;

/** The class has the document's face, and nothing else of it can be seen (LANGUAGE.md, rules 1 and 5). */
public final class FaceTest {
    private static final Set<String> FACE = Set.of(
        "int write(int)", "int wipe()", "int fault()", "int map()", "int about(int)",
        "int shade(int,int)", "int cell(int,int)", "int guess(int,int)",
        "int dot(int,int,boolean)", "int change(int,int)", "int move(int,int,int)", "int lay(int)",
        "int paint(int,int,int)", "int shift(int)", "int lose(int)", "int undo()", "int miss(int)",
        "int judge(int,long)", "int see(int,int,int)", "int unsee()", "int which()",
        "int share(int,boolean)", "int chance(int,int,boolean)", "int mean(int,boolean)",
        "long seed(long)", "int drawn(int)", "int keep(int)", "int again(int)");
    private static final Set<String> CONSTANTS = Set.of("UNKNOWN", "BAD", "LATE", "FULL", "NONE");

    private static final Check check = new Check();

    public static void main(String[] args) {
        int modifiers = TwoHalves.class.getModifiers();
        check.holds("the class is public and final",
            Modifier.isPublic(modifiers) && Modifier.isFinal(modifiers));
        methods();
        constructors();
        fields(TwoHalves.class);
        for (Class<?> inside : TwoHalves.class.getDeclaredClasses()) {
            check.holds(inside + " is static", Modifier.isStatic(inside.getModifiers()));
            check.holds(inside + " is not public", !Modifier.isPublic(inside.getModifiers()));
            check.holds(inside + " is final", Modifier.isFinal(inside.getModifiers()));
            fields(inside);
            for (Method method : inside.getDeclaredMethods()) {
                check.holds(method + " bears no name of the face", !isFaceName(method.getName()));
            }
        }
        check.holds("at most twelve classes", TwoHalves.class.getDeclaredClasses().length <= 11);
        check.end("FaceTest");
    }

    private static boolean isFaceName(String name) {
        return FACE.stream().anyMatch(method -> method.contains(" " + name + "("));
    }

    private static void methods() {
        Set<String> seen = new TreeSet<>();
        for (Method method : TwoHalves.class.getDeclaredMethods()) {
            String[] types = Arrays.stream(method.getParameterTypes()).map(Class::getName)
                .toArray(String[]::new);
            String told = method.getReturnType().getName() + " " + method.getName() + "("
                + String.join(",", types) + ")";
            if (Modifier.isPublic(method.getModifiers())) {
                seen.add(told);
                check.holds(told + " is not static", !Modifier.isStatic(method.getModifiers()));
            } else {
                check.holds(told + " is private", Modifier.isPrivate(method.getModifiers()));
                check.holds(told + " bears no name of the face", !isFaceName(method.getName()));
            }
        }
        check.holds("the public methods are " + seen, seen.equals(new TreeSet<>(FACE)));
    }

    private static void constructors() {
        Constructor<?>[] all = TwoHalves.class.getDeclaredConstructors();
        check.holds("one public constructor without arguments", all.length == 1
            && Modifier.isPublic(all[0].getModifiers()) && all[0].getParameterCount() == 0);
    }

    private static void fields(Class<?> owner) {
        int own = 0;
        for (Field field : owner.getDeclaredFields()) {
            int modifiers = field.getModifiers();
            if (Modifier.isStatic(modifiers)) {
                check.holds(field + " is final", Modifier.isFinal(modifiers));
                boolean constant = owner == TwoHalves.class && CONSTANTS.contains(field.getName());
                check.holds(field + " is as visible as it must be",
                    constant ? Modifier.isPublic(modifiers) : Modifier.isPrivate(modifiers));
            } else {
                own++;
                check.holds(field + " is private", Modifier.isPrivate(modifiers));
            }
        }
        check.holds(owner + " has at most twenty fields", own <= 20);
    }
}
