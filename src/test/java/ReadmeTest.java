import java.io.IOException;
import java.lang.reflect.Method;
import java.lang.reflect.Modifier;
import java.nio.file.Files;
import java.nio.file.Path;
import java.util.ArrayList;
import java.util.Arrays;
import java.util.List;
import java.util.Set;
import java.util.TreeSet;
import java.util.regex.Matcher;
import java.util.regex.Pattern;

/** Holds README.md against the class: its calls must answer what it says, and it must tell of every call. */
public final class ReadmeTest {

    private static final Path README = Path.of("README.md");
    private static final String FIRST = "NeighbourScores x = new NeighbourScores();";
    private static final Pattern CALL = Pattern.compile("x\\.(\\w+)\\(([-0-9, ]*)\\); +// ([-\\w]+)(: .*)?");
    private static final Pattern ROW = Pattern.compile("\\| `(\\w+)\\(([\\w, ]*)\\)` \\|.*");

    private static int wrong = 0;

    public static void main(String[] args) throws ReflectiveOperationException, IOException {
        List<String> lines = Files.readAllLines(README);
        Set<String> face = face();
        Set<String> called = example(block(lines));
        demand(called.equals(face), "the example has every call of " + face + ", and not just " + called);
        Set<String> told = table(lines);
        demand(told.equals(face), "the table has every call of " + face + ", and not just " + told);
        System.out.println(wrong == 0 ? "all is as due" : wrong + " faults");
        if (wrong != 0) {
            System.exit(1);
        }
    }

    private static Set<String> face() {
        Set<String> names = new TreeSet<>();
        for (Method method : NeighbourScores.class.getDeclaredMethods()) {
            if (Modifier.isPublic(method.getModifiers())) {
                names.add(method.getName());
            }
        }
        return names;
    }

    private static List<String> block(List<String> lines) {
        int start = lines.indexOf("```java") + 1;
        int end = start;
        while (end < lines.size() && !lines.get(end).equals("```")) {
            end++;
        }
        demand(start > 0 && end < lines.size() && lines.get(start).equals(FIRST), "a block that begins with " + FIRST);
        return lines.subList(Math.min(start + 1, end), end);
    }

    private static Set<String> example(List<String> lines) throws ReflectiveOperationException {
        NeighbourScores x = new NeighbourScores();
        Set<String> called = new TreeSet<>();
        for (String line : lines) {
            Matcher call = CALL.matcher(line);
            if (!call.matches()) {
                demand(false, "a call and its answer: " + line);
                continue;
            }
            called.add(call.group(1));
            String got = answer(x, call.group(1), numbers(call.group(2)));
            demand(got.equals(due(call.group(3))), line + " (it answered " + got + ")");
        }
        return called;
    }

    private static Integer[] numbers(String text) {
        List<Integer> numbers = new ArrayList<>();
        for (String one : text.split(",")) {
            if (!one.isBlank()) {
                numbers.add(Integer.valueOf(one.strip()));
            }
        }
        return numbers.toArray(new Integer[0]);
    }

    private static String answer(NeighbourScores x, String name, Integer[] numbers) throws ReflectiveOperationException {
        Class<?>[] types = new Class<?>[numbers.length];
        Arrays.fill(types, int.class);
        return String.valueOf(NeighbourScores.class.getMethod(name, types).invoke(x, (Object[]) numbers));
    }

    private static String due(String text) throws ReflectiveOperationException {
        boolean isConstant = text.matches("[A-Z]+");
        return isConstant ? String.valueOf(NeighbourScores.class.getField(text).get(null)) : text;
    }

    private static Set<String> table(List<String> lines) {
        Set<String> told = new TreeSet<>();
        for (String line : lines) {
            Matcher row = ROW.matcher(line);
            if (row.matches()) {
                told.add(row.group(1));
                demand(hasCall(row.group(1), numberOfArguments(row.group(2))), "a call of the class: " + line);
            }
        }
        return told;
    }

    private static int numberOfArguments(String text) {
        return text.isBlank() ? 0 : text.split(",").length;
    }

    private static boolean hasCall(String name, int count) {
        for (Method method : NeighbourScores.class.getDeclaredMethods()) {
            if (method.getName().equals(name) && method.getParameterCount() == count) {
                return true;
            }
        }
        return false;
    }

    private static void demand(boolean holds, String what) {
        if (!holds) {
            wrong++;
            System.out.println("does not hold: " + what);
        }
    }
}
