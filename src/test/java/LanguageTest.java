import java.io.IOException;
import java.lang.reflect.Modifier;
import java.nio.file.Files;
import java.nio.file.Path;
import java.util.ArrayList;
import java.util.Arrays;
import java.util.HashMap;
import java.util.HashSet;
import java.util.List;
import java.util.Map;
import java.util.Set;
import java.util.regex.Matcher;
import java.util.regex.Pattern;

/** What of LANGUAGE.md can be seen in the program's text. It is run from the project's folder. */
public final class LanguageTest {
    private static final Path PROGRAM = Path.of("src/main/java/CourtWash.java");
    private static final String LIBRARY = "Arrays\\.(fill|copyOf|copyOfRange)|System\\.arraycopy|List\\.of|(Math|Integer|Long)\\.\\w+";
    private static final String IMPORTS = "java\\.util\\.(Arrays|ArrayList|List|Iterator)";
    private static final Pattern HEAD = Pattern.compile("^(    |        )(?! )((?:\\w+(?:\\[\\])? )+)(\\w+)\\(([^()]*)\\) \\{$");
    private static final Check CHECK = new Check("LanguageTest");

    private record Method(String name, String modifiers, String parameters, String body) {
    }

    public static void main(String[] args) throws IOException {
        String source = Files.readString(PROGRAM);
        CHECK.that("signs are 1 to 127", source.chars().allMatch(c -> c >= 1 && c <= 127));
        String code = withoutComments(source);
        forbidden(code);
        onlyTheLibrary(code);
        staticsAreFinal(code);
        publicNamesStandOnce(code);
        List<Method> methods = methodsOf(code);
        methodsAreShort(methods);
        recursionIsAsTold(methods);
        callsAreNotDeep(methods);
        classesAreSmall();
        CHECK.end();
    }

    private static String withoutComments(String source) {
        return source.replaceAll("(?s)/\\*.*?\\*/", "").replaceAll("//[^\n]*", "");
    }

    private static int count(String code, String pattern) {
        Matcher m = Pattern.compile(pattern).matcher(code);
        int n = 0;
        while (m.find()) {
            n++;
        }
        return n;
    }

    private static void forbidden(String code) {
        List<String> patterns = List.of("\\bpackage\\b", "\\bthrow\\b", "\\bthrows\\b", "\\btry\\b", "\\bcatch\\b",
                "\\bsynchronized\\b", "\\bassert\\b", "(?m)^(?!.*\\b(case|default)\\b).*->", "::", "\\bhashCode\\b",
                "\\bString toString\\b", "\\bvolatile\\b", "\\bnative\\b", "\\bwhile \\(true\\)", "for \\(;;",
                "Exact\\b", "Math\\.random", "\\bstatic \\{", "\\bObject\\b", "\" \\+", "\\+ \"");
        for (String p : patterns) {
            CHECK.due("places of " + p, count(code, p), 0);
        }
    }

    private static void onlyTheLibrary(String code) {
        Matcher m = Pattern.compile("\\b(Arrays|System|Math|Integer|Long|List|ArrayList)\\.\\w+").matcher(code);
        while (m.find()) {
            CHECK.that("the library has " + m.group(), m.group().matches(LIBRARY));
        }
        CHECK.due("imports of the library", count(code, "\\bimport " + IMPORTS + ";"), count(code, "\\bimport\\b"));
    }

    private static void staticsAreFinal(String code) {
        Matcher m = Pattern.compile("(?m)^ *(public |private )?static (?!final |class |abstract )[^(\n]*(=|;)").matcher(code);
        CHECK.that("static fields are final", !m.find());
    }

    /** No private method bears a public one's name. */
    private static void publicNamesStandOnce(String code) {
        Set<String> names = new HashSet<>();
        Matcher open = Pattern.compile("(?m)^    public int (\\w+)\\(").matcher(code);
        while (open.find()) {
            CHECK.that(open.group(1) + " stands once", names.add(open.group(1)));
        }
        CHECK.due("public methods", names.size(), 27);
        Matcher any = Pattern.compile("(?m)^ +private (?:static |final )*[\\w\\[\\]]+ (\\w+)\\(").matcher(code);
        while (any.find()) {
            CHECK.that(any.group(1) + " is no public name", !names.contains(any.group(1)));
        }
    }

    /** The methods of a text, each from its head to its last line. */
    private static List<Method> methodsOf(String code) {
        List<Method> methods = new ArrayList<>();
        String[] lines = code.split("\n");
        int from = -1;
        Matcher head = null;
        for (int i = 0; i < lines.length; i++) {
            Matcher m = HEAD.matcher(lines[i]);
            if (from < 0 && m.find()) {
                from = i;
                head = m;
            } else if (from >= 0 && lines[i].equals(head.group(1) + "}")) {
                String body = String.join("\n", Arrays.copyOfRange(lines, from + 1, i));
                methods.add(new Method(head.group(3), head.group(2), head.group(4), body));
                from = -1;
            }
        }
        return methods;
    }

    private static void methodsAreShort(List<Method> methods) {
        CHECK.that("methods are found", methods.size() > 100);
        for (Method m : methods) {
            CHECK.that("parameters of " + m.name, m.parameters.split(",").length <= 7);
            CHECK.that("lines of " + m.name, m.body.split("\n").length < 70);
        }
    }

    /** Rule 8: what calls itself is private and static, or private methods call one another. */
    private static void recursionIsAsTold(List<Method> methods) {
        for (Method m : methods) {
            boolean itself = count(m.body, "(?<!super\\.)\\b" + m.name + "\\(") > 0;
            CHECK.that(m.name + " calls itself only if it is private and static",
                    !itself || m.modifiers.contains("private") && m.modifiers.contains("static"));
        }
        Map<String, Set<String>> calls = callsOf(methods);
        for (Method m : methods) {
            Set<String> reached = new HashSet<>();
            reach(m.name, calls, reached);
            CHECK.that(m.name + " comes back to itself only if it is private, or a BODY",
                    !reached.contains(m.name) || m.modifiers.contains("private") || m.name.matches("size|mark"));
        }
    }

    private static void reach(String name, Map<String, Set<String>> calls, Set<String> reached) {
        for (String next : calls.get(name)) {
            if (reached.add(next)) {
                reach(next, calls, reached);
            }
        }
    }

    /** By names alone: which methods of the program a method calls, but for itself (a BODY's super). */
    private static Map<String, Set<String>> callsOf(List<Method> methods) {
        Map<String, Set<String>> calls = new HashMap<>();
        for (Method m : methods) {
            calls.put(m.name, new HashSet<>());
        }
        for (Method m : methods) {
            Matcher call = Pattern.compile("(?<!new )\\b(\\w+)\\(").matcher(m.body);
            while (call.find()) {
                if (calls.containsKey(call.group(1)) && !call.group(1).equals(m.name)) {
                    calls.get(m.name).add(call.group(1));
                }
            }
        }
        return calls;
    }

    /** Rule 11: calls go at most eight deep (a method that stands open already is recursion). */
    private static void callsAreNotDeep(List<Method> methods) {
        Map<String, Set<String>> calls = callsOf(methods);
        for (Method m : methods) {
            if (m.modifiers.contains("public")) {
                int deep = depth(m.name, calls, new HashSet<>());
                CHECK.that(m.name + " goes " + deep + " deep, eight at most", deep <= 8);
            }
        }
    }

    private static int depth(String name, Map<String, Set<String>> calls, Set<String> open) {
        int deepest = 0;
        open.add(name);
        for (String next : calls.get(name)) {
            if (!open.contains(next)) {
                deepest = Math.max(deepest, depth(next, calls, open));
            }
        }
        open.remove(name);
        return deepest + 1;
    }

    /** Rule 11: a class has some twenty fields beside its constants. */
    private static void classesAreSmall() {
        List<Class<?>> classes = new ArrayList<>(List.of(CourtWash.class.getDeclaredClasses()));
        classes.add(CourtWash.class);
        CHECK.that("some twelve classes", classes.size() <= 13);
        for (Class<?> c : classes) {
            long fields = Arrays.stream(c.getDeclaredFields()).filter(f -> !Modifier.isStatic(f.getModifiers())).count();
            CHECK.that("fields of " + c.getName(), fields <= 20);
        }
    }
}
