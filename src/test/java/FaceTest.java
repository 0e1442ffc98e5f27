import java.lang.reflect.Constructor;
import java.lang.reflect.Field;
import java.lang.reflect.Member;
import java.lang.reflect.Method;
import java.lang.reflect.Modifier;
import java.nio.file.Files;
import java.nio.file.Path;
import java.util.ArrayList;
import java.util.HashMap;
import java.util.List;
import java.util.Map;
import java.util.Set;
import java.util.TreeSet;
import java.util.regex.Matcher;
import java.util.regex.Pattern;

/** The public face as the document has it, and the rules of the language that a glance at the source can tell. */
final class FaceTest {
    private static final Path SOURCE = Path.of("src/main/java/OneWayTillNoon.java");
    private static final Path DOCUMENT = Path.of("../shared/DOC.md");
    private static final int MOST_METHOD_LINES = 60;
    private static final int MOST_PARAMETERS = 7;
    private static final int MOST_CLASSES = 12;
    private static final int MOST_FIELDS = 20;
    private static final int MOST_DEPTH = 8;
    private static final String HEAD = " +(public |private |static )*[\\w\\[\\]]+ ?(\\w*)\\(.*\\) \\{";
    private static final Pattern CALL = Pattern.compile("\\b(\\w+)\\(");
    private static final Due DUE = new Due();

    private FaceTest() { }

    public static void main(String[] args) throws Exception {
        String source = Files.readString(SOURCE);
        face();
        classes();
        words(source);
        methodLengths(source);
        callDepths(source);
        DUE.end();
    }

    private static String signature(Method method) {
        StringBuilder text = new StringBuilder(method.getReturnType().getName()).append(' ').append(method.getName());
        for (Class<?> type : method.getParameterTypes()) {
            text.append(' ').append(type.getName());
        }
        return text.toString();
    }

    private static void face() throws Exception {
        Set<String> due = new TreeSet<>();
        Matcher lines = Pattern.compile("    public (\\w+) (\\w+)\\((.*)\\);").matcher(Files.readString(DOCUMENT));
        while (lines.find()) {
            String types = lines.group(3).replaceAll("(\\w+) \\w+(, )?", " $1");
            due.add(lines.group(1) + " " + lines.group(2) + types);
        }
        Set<String> seen = new TreeSet<>();
        Set<String> names = new TreeSet<>();
        for (Method method : OneWayTillNoon.class.getDeclaredMethods()) {
            if (!Modifier.isPrivate(method.getModifiers())) {
                seen.add(signature(method));
                names.add(method.getName());
            }
        }
        DUE.due("methods of the document", due.size(), 35);
        DUE.due("the face, " + seen + ", is the document's, " + due, seen.equals(due) ? 1 : 0, 1);
        DUE.due("constructors", OneWayTillNoon.class.getDeclaredConstructors().length, 1);
        DUE.due("final", Modifier.isFinal(OneWayTillNoon.class.getModifiers()) ? 1 : 0, 1);
        for (Method method : allMethods()) {
            boolean ofFace = method.getDeclaringClass() == OneWayTillNoon.class && !Modifier.isPrivate(method.getModifiers());
            DUE.due(method + " bears a name of the face", !ofFace && names.contains(method.getName()) ? 1 : 0, 0);
        }
        for (Field field : OneWayTillNoon.class.getDeclaredFields()) {
            DUE.due(field + " is private", Modifier.isPrivate(field.getModifiers()) ? 1 : 0, 1);
        }
    }

    private static List<Class<?>> allClasses() {
        List<Class<?>> all = new ArrayList<>(List.of(OneWayTillNoon.class));
        all.addAll(List.of(OneWayTillNoon.class.getDeclaredClasses()));
        return all;
    }

    private static List<Method> allMethods() {
        List<Method> all = new ArrayList<>();
        for (Class<?> one : allClasses()) {
            all.addAll(List.of(one.getDeclaredMethods()));
        }
        return all;
    }

    private static boolean isStatic(Member member) {
        return Modifier.isStatic(member.getModifiers());
    }

    private static void classes() {
        DUE.due("too many classes", allClasses().size() > MOST_CLASSES ? 1 : 0, 0);
        for (Class<?> one : allClasses()) {
            int own = 0;
            for (Field field : one.getDeclaredFields()) {
                own += isStatic(field) ? 0 : 1;
                DUE.due(field + " is static and not final",
                        isStatic(field) && !Modifier.isFinal(field.getModifiers()) ? 1 : 0, 0);
            }
            DUE.due(one + " has too many fields", own > MOST_FIELDS ? 1 : 0, 0);
            DUE.due(one + " is static", one == OneWayTillNoon.class || Modifier.isStatic(one.getModifiers()) ? 1 : 0, 1);
            for (Constructor<?> made : one.getDeclaredConstructors()) {
                DUE.due(made + " takes too many", made.getParameterCount() > MOST_PARAMETERS ? 1 : 0, 0);
            }
        }
        for (Method method : allMethods()) {
            DUE.due(method + " takes too many", method.getParameterCount() > MOST_PARAMETERS ? 1 : 0, 0);
        }
    }

    private static void words(String source) {
        String code = source.replaceAll("(?s)/\\*.*?\\*/", "").replaceAll("//.*", "");
        String[] ruledOut = {"\\bthrows?\\b", "\\btry\\b", "\\bcatch\\b", "\\bsynchronized\\b", "\\bassert\\b", "->", "::",
            "Exact\\b", "\\bpackage\\b", "\\bhashCode\\b", "\\btoString\\b", "\\bimport (?!java\\.util\\.Arrays;)", "\\bstatic \\{",
            "\\bSystem\\.(?!arraycopy\\b)", "\\bArrays\\.(?!fill\\b)", "\\bnull\\b", "while \\(true\\)"};
        for (String word : ruledOut) {
            Matcher found = Pattern.compile(word).matcher(code);
            DUE.due("ruled out: " + word, found.find() ? 1 : 0, 0);
        }
        DUE.due("signs above 127", source.chars().filter(sign -> sign > 127).count(), 0);
    }

    private static void methodLengths(String source) {
        int begun = -1;
        String end = "";
        String[] lines = source.split("\n");
        for (int i = 0; i < lines.length; i++) {
            if (isHead(lines[i])) {
                begun = i;
                end = lines[i].replaceAll("\\S.*", "") + "}";
            } else if (begun >= 0 && lines[i].equals(end)) {
                DUE.due("too long: " + lines[begun].trim(), i - begun > MOST_METHOD_LINES ? 1 : 0, 0);
                begun = -1;
            }
        }
    }

    private static boolean isHead(String line) {
        return line.matches(HEAD) && !line.matches(" +(if|for|while|switch|else).*");
    }

    /** By names alone: methods of one name count as one, so no chain of calls is missed. */
    private static void callDepths(String source) {
        Map<String, Set<String>> calls = new HashMap<>();
        String method = "";
        for (String line : source.replaceAll("(?s)/\\*.*?\\*/", "").split("\n")) {
            boolean head = isHead(line);
            method = head ? line.replaceFirst(HEAD, "$2") : method;
            Matcher call = CALL.matcher(head ? "" : line);
            while (call.find()) {
                calls.computeIfAbsent(method, name -> new TreeSet<>()).add(call.group(1));
            }
        }
        DUE.due("methods that call others", calls.size() > 30 ? 1 : 0, 1);
        for (String name : calls.keySet()) {
            int depth = depthOf(name, calls, 1);
            DUE.due(name + " goes " + depth + " deep, too deep", depth > MOST_DEPTH ? 1 : 0, 0);
        }
    }

    private static int depthOf(String name, Map<String, Set<String>> calls, int open) {
        int deepest = open;
        if (open <= MOST_DEPTH) {
            for (String called : calls.getOrDefault(name, Set.of())) {
                deepest = Math.max(deepest, depthOf(called, calls, open + 1));
            }
        }
        return deepest;
    }
}
