import java.io.IOException;
import java.lang.reflect.Method;
import java.lang.reflect.Modifier;
import java.nio.file.DirectoryStream;
import java.nio.file.Files;
import java.nio.file.Path;
import java.util.Set;
import java.util.TreeSet;
import java.util.regex.Matcher;
import java.util.regex.Pattern;

/** That README.md is right: its rows of calls answer what stands behind them, and its tables name all that there is. */
final class ReadmeTest {
    private static final Pattern ROW = Pattern.compile("(?m)^x\\.(\\w+)\\((.*)\\); +// (-?\\d+):");
    private static final Due DUE = new Due();

    private ReadmeTest() { }

    public static void main(String[] args) throws IOException, ReflectiveOperationException {
        String readme = Files.readString(Path.of("README.md"));
        rowsOfCalls(readme);
        namesInTable("calls", namesUnder(readme, "| calls |", "`(\\w+)`"), callsOfTheFace());
        namesInTable("classes", namesUnder(readme, "| class inside |", "\\b(\\w+)\\b"), classesInside());
        namesInTable("tests", namesUnder(readme, "| tests |", "`(\\w+)`"), tests());
        DUE.end();
    }

    private static void rowsOfCalls(String readme) throws ReflectiveOperationException {
        OneWayTillNoon x = new OneWayTillNoon();
        Matcher row = ROW.matcher(readme);
        int rows = 0;
        while (row.find()) {
            rows++;
            Method call = callNamed(row.group(1));
            Object[] numbers = numbersOf(row.group(2), call.getParameterTypes());
            DUE.due(row.group(), (Integer) call.invoke(x, numbers), Integer.parseInt(row.group(3)));
        }
        DUE.due("lines with a call of x", readme.lines().filter(line -> line.startsWith("x.")).count(), rows);
        DUE.due("rows", rows > 5 ? 1 : 0, 1);
    }

    private static Method callNamed(String name) {
        for (Method method : OneWayTillNoon.class.getDeclaredMethods()) {
            if (method.getName().equals(name)) {
                return method;
            }
        }
        throw new IllegalStateException("no call " + name);
    }

    private static Object[] numbersOf(String text, Class<?>[] types) {
        String[] words = text.isEmpty() ? new String[0] : text.split(", ");
        Object[] numbers = new Object[types.length];
        for (int i = 0; i < types.length; i++) {
            long number = words[i].startsWith("'") ? words[i].charAt(1) : Long.decode(words[i].replace("L", ""));
            numbers[i] = types[i] == long.class ? (Object) number : (Object) (int) number;
        }
        return numbers;
    }

    /** The names in the first column of the table with that head. */
    private static Set<String> namesUnder(String readme, String head, String name) {
        Set<String> names = new TreeSet<>();
        boolean inside = false;
        for (String line : readme.split("\n")) {
            boolean isHead = line.startsWith(head);
            inside = isHead || inside && line.startsWith("|");
            Matcher found = Pattern.compile(name).matcher(inside && !isHead ? line.split("\\|")[1] : "");
            while (found.find()) {
                names.add(found.group(1));
            }
        }
        return names;
    }

    private static void namesInTable(String what, Set<String> named, Set<String> there) {
        DUE.same(what + " in the table", named.toString(), there.toString());
    }

    private static Set<String> callsOfTheFace() {
        Set<String> names = new TreeSet<>();
        for (Method method : OneWayTillNoon.class.getDeclaredMethods()) {
            if (Modifier.isPublic(method.getModifiers())) {
                names.add(method.getName());
            }
        }
        return names;
    }

    private static Set<String> classesInside() {
        Set<String> names = new TreeSet<>();
        for (Class<?> inside : OneWayTillNoon.class.getDeclaredClasses()) {
            names.add(inside.getSimpleName());
        }
        return names;
    }

    private static Set<String> tests() throws IOException {
        Set<String> names = new TreeSet<>();
        try (DirectoryStream<Path> files = Files.newDirectoryStream(Path.of("src/test/java"), "*Test.java")) {
            for (Path file : files) {
                names.add(file.getFileName().toString().replace(".java", ""));
            }
        }
        return names;
    }
}
