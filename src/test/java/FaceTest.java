import java.io.IOException;
import java.lang.management.ManagementFactory;
import java.lang.reflect.Constructor;
import java.lang.reflect.Field;
import java.lang.reflect.Method;
import java.lang.reflect.Modifier;
import java.nio.file.Files;
import java.nio.file.Path;
import java.util.Set;
import java.util.TreeSet;
import java.util.regex.Matcher;
import java.util.regex.Pattern;

/** Holds the class against the document's face, and against the rules of LANGUAGE.md that can be seen from outside. */
public final class FaceTest {

    private static final Path SOURCE = Path.of("src/main/java/NeighbourScores.java");

    private static final Set<String> METHODS = Set.of(
            "int rate(int, int, int)", "int snapshot()", "boolean power(int)", "int restart()", "boolean isOn()",
            "int word(int)", "boolean spoil(int, int)", "int rating(int, int)", "int weight(int, int)",
            "int neighbour(int, int)", "long score(int, int)", "int best(int, int)", "int reads(int, int)",
            "long share(int, int, int)", "int number(int)");
    private static final Set<String> CONSTANTS = Set.of("NONE", "BAD", "OFF", "FULL");

    private static int wrong = 0;

    public static void main(String[] args) throws IOException {
        face();
        insideClasses();
        source();
        anyArguments();
        room();
        System.out.println(wrong == 0 ? "all is as due" : wrong + " faults");
        if (wrong != 0) {
            System.exit(1);
        }
    }

    private static void face() {
        Class<?> face = NeighbourScores.class;
        demand(Modifier.isPublic(face.getModifiers()) && Modifier.isFinal(face.getModifiers()), "public and final");
        demand(face.getPackageName().isEmpty(), "no package");
        for (Constructor<?> made : face.getDeclaredConstructors()) {
            demand(Modifier.isPublic(made.getModifiers()) && made.getParameterCount() == 0, "constructor " + made);
        }
        Set<String> methods = new TreeSet<>();
        for (Method method : face.getDeclaredMethods()) {
            if (Modifier.isPublic(method.getModifiers())) {
                demand(!Modifier.isStatic(method.getModifiers()), "not static: " + method);
                methods.add(signature(method));
            } else {
                demand(Modifier.isPrivate(method.getModifiers()), "private: " + method);
                demand(!isFaceName(method.getName()), "no name of the face: " + method);
            }
        }
        demand(methods.equals(METHODS), "methods " + methods);
        for (Field field : face.getDeclaredFields()) {
            if (CONSTANTS.contains(field.getName())) {
                demand(field.getModifiers() == (Modifier.PUBLIC | Modifier.STATIC | Modifier.FINAL), "constant " + field);
                demand(field.getType() == int.class, "an int: " + field);
            } else {
                demand(Modifier.isPrivate(field.getModifiers()), "private: " + field);
            }
        }
    }

    private static void insideClasses() {
        Class<?>[] inside = NeighbourScores.class.getDeclaredClasses();
        demand(inside.length <= 12, "some twelve classes");
        for (Class<?> one : inside) {
            demand(Modifier.isPrivate(one.getModifiers()) && Modifier.isStatic(one.getModifiers()), "private and static: " + one);
            for (Method method : one.getDeclaredMethods()) {
                demand(!isFaceName(method.getName()), "no name of the face: " + method);
                demand(method.getParameterCount() <= 7, "at most seven parameters: " + method);
            }
            for (Field field : one.getDeclaredFields()) {
                demand(!Modifier.isStatic(field.getModifiers()) || Modifier.isFinal(field.getModifiers()), "final: " + field);
            }
        }
    }

    private static String signature(Method method) {
        StringBuilder text = new StringBuilder();
        text.append(method.getReturnType().getName()).append(' ').append(method.getName()).append('(');
        for (int k = 0; k < method.getParameterCount(); k++) {
            text.append(k == 0 ? "" : ", ").append(method.getParameterTypes()[k].getName());
        }
        return text.append(')').toString();
    }

    private static boolean isFaceName(String name) {
        for (String method : METHODS) {
            if (method.contains(" " + name + "(")) {
                return true;
            }
        }
        return false;
    }

    private static void source() throws IOException {
        String text = Files.readString(SOURCE).replaceAll("(?s)/\\*.*?\\*/", "").replaceAll("//[^\n]*", "");
        String[] forbidden = {"\\bimport\\b", "\\bpackage\\b", "->", "::", "\\bthrows?\\b", "\\btry\\b", "\\bcatch\\b",
            "\\bfinally\\b", "\\bsynchronized\\b", "\\bassert\\b", "\\bSystem\\b", "\\bThread\\b", "\\bRandom\\b",
            "\\bObject\\b", "\\bhashCode\\b", "\\bequals\\b", "\\btoString\\b", "\\bvar\\b", "\\bstatic\\s*\\{"};
        for (String one : forbidden) {
            Matcher found = Pattern.compile(one).matcher(text);
            demand(!found.find(), "the source does not hold " + one);
        }
    }

    /** No call may throw, whatever its arguments and the state are; a throw ends this test. */
    private static void anyArguments() {
        int[] numbers = {Integer.MIN_VALUE, Integer.MIN_VALUE + 1, -1000000000, -173, -2, -1, 0, 1, 11, 12, 15, 16, 171,
            172, 1000000000, Integer.MAX_VALUE - 1, Integer.MAX_VALUE};
        for (int state = 0; state < 5; state++) {
            for (int a : numbers) {
                for (int b : numbers) {
                    NeighbourScores x = inState(state);
                    for (int c : numbers) {
                        x.rate(a, b, c);
                        x.share(a, b, c);
                    }
                    x.spoil(a, b);
                    x.rating(a, b);
                    x.weight(a, b);
                    x.neighbour(a, b);
                    x.score(a, b);
                    x.best(a, b);
                    x.reads(a, b);
                    x.number(a);
                    x.word(a);
                    x.power(a);
                    x.snapshot();
                    demand(x.restart() <= 40, "at most 40 are done");
                    demand(x.isOn(), "on behind a restart");
                }
            }
        }
    }

    /** New; with ratings; with the most records; off; with a disk of nothing but one number. */
    private static NeighbourScores inState(int state) {
        NeighbourScores x = new NeighbourScores();
        for (int n = 0; n < (state == 0 ? 0 : state == 1 ? 20 : 40); n++) {
            x.rate(n % 4, n % 16, 5);
        }
        if (state == 3) {
            x.power(1);
            x.snapshot();
        }
        for (int a = 0; a < 172 && state == 4; a++) {
            x.spoil(a, 0x80000001);
        }
        return x;
    }

    /** All calls of a run share one room: a call makes nothing, and an object is small. */
    private static void room() {
        com.sun.management.ThreadMXBean counter =
                (com.sun.management.ThreadMXBean) ManagementFactory.getThreadMXBean();
        long thread = Thread.currentThread().getId();
        calls(new NeighbourScores(), 512);
        long before = counter.getThreadAllocatedBytes(thread);
        NeighbourScores x = new NeighbourScores();
        long made = counter.getThreadAllocatedBytes(thread);
        calls(x, 512);
        long behind = counter.getThreadAllocatedBytes(thread);
        demand(made - before < 20000, "a small object, not " + (made - before) + " bytes");
        demand(behind - made < 2000, "no call makes anything, not " + (behind - made) + " bytes");
    }

    private static void calls(NeighbourScores x, int count) {
        for (int n = 0; n < count; n++) {
            x.rate(n % 12, n % 16, n % 6);
            x.reads(n % 12, n % 16 + 1);
            x.best(n % 12, 0);
            x.neighbour(n % 16, 0);
            x.score(n % 12, n % 16);
            x.share(n % 12, n % 16, n % 7);
            x.weight(n % 12, n % 16);
            x.number(n % 4);
            if (n % 30 == 0) {
                x.snapshot();
                x.restart();
            }
            if (n % 50 == 0) {
                x.power(1);
            }
        }
    }

    private static void demand(boolean holds, String what) {
        if (!holds) {
            wrong++;
            System.out.println("does not hold: " + what);
        }
    }
}
