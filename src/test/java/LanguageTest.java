import java.io.IOException;
import java.nio.file.Files;
import java.nio.file.Path;
import java.util.HashSet;
import java.util.List;
import java.util.Set;
import java.util.regex.Matcher;
import java.util.regex.Pattern;

/** What of LANGUAGE.md can be seen in the program's text. It is run from the project's folder. */
public final class LanguageTest {
    private static final Path PROGRAM = Path.of("src/main/java/CourtWash.java");
    private static final String LIBRARY = "Arrays\\.(fill|copyOf|copyOfRange)|System\\.arraycopy|List\\.of|(Math|Integer|Long)\\.\\w+";
    private static final String IMPORTS = "java\\.util\\.(Arrays|ArrayList|List|Iterator)";
    private static final Check CHECK = new Check("LanguageTest");

    public static void main(String[] args) throws IOException {
        String source = Files.readString(PROGRAM);
        CHECK.that("signs are 1 to 127", source.chars().allMatch(c -> c >= 1 && c <= 127));
        String code = withoutComments(source);
        forbidden(code);
        onlyTheLibrary(code);
        staticsAreFinal(code);
        publicNamesStandOnce(code);
        methodsAreShort(code);
        CHECK.that("some twelve classes", count(code, "\\b(class|interface|enum|record) \\w+") <= 14);
        CHECK.end();
    }

    private static String withoutComments(String source) {
        return source.replaceAll("(?s)/\\*.*?\\*/", "").replaceAll("//[^\n]*", "");
    }

    private static int count(String code, String pattern) {
        Matcher m = Pattern.compile(pattern).matcher(code);
        int n = 0;
        while (m.find()) {
            n++;
        }
        return n;
    }

    private static void forbidden(String code) {
        List<String> patterns = List.of("\\bpackage\\b", "\\bthrow\\b", "\\bthrows\\b", "\\btry\\b", "\\bcatch\\b",
                "\\bsynchronized\\b", "\\bassert\\b", "(?m)^(?!.*\\b(case|default)\\b).*->", "::", "\\bhashCode\\b",
                "\\bString toString\\b", "\\bvolatile\\b", "\\bnative\\b", "\\bwhile \\(true\\)", "for \\(;;",
                "Exact\\b", "Math\\.random", "\\bstatic \\{", "\\bObject\\b", "\" \\+", "\\+ \"");
        for (String p : patterns) {
            CHECK.due("places of " + p, count(code, p), 0);
        }
    }

    private static void onlyTheLibrary(String code) {
        Matcher m = Pattern.compile("\\b(Arrays|System|Math|Integer|Long|List|ArrayList)\\.\\w+").matcher(code);
        while (m.find()) {
            CHECK.that("the library has " + m.group(), m.group().matches(LIBRARY));
        }
        CHECK.due("imports of the library", count(code, "\\bimport " + IMPORTS + ";"), count(code, "\\bimport\\b"));
    }

    private static void staticsAreFinal(String code) {
        Matcher m = Pattern.compile("(?m)^ *(public |private )?static (?!final |class |abstract )[^(\n]*(=|;)").matcher(code);
        CHECK.that("static fields are final", !m.find());
    }

    /** No private method bears a public one's name. */
    private static void publicNamesStandOnce(String code) {
        Set<String> names = new HashSet<>();
        Matcher open = Pattern.compile("(?m)^    public int (\\w+)\\(").matcher(code);
        while (open.find()) {
            CHECK.that(open.group(1) + " stands once", names.add(open.group(1)));
        }
        CHECK.due("public methods", names.size(), 27);
        Matcher any = Pattern.compile("(?m)^ +private (?:static |final )*[\\w\\[\\]]+ (\\w+)\\(").matcher(code);
        while (any.find()) {
            CHECK.that(any.group(1) + " is no public name", !names.contains(any.group(1)));
        }
    }

    private static void methodsAreShort(String code) {
        String[] lines = code.split("\n");
        int from = -1;
        String indent = "";
        for (int i = 0; i < lines.length; i++) {
            Matcher head = Pattern.compile("^(    |        )(?! )[\\w\\[\\] ]*\\w+\\(([^()]*)\\) \\{$").matcher(lines[i]);
            if (from < 0 && head.find() && !lines[i].contains("class ")) {
                from = i;
                indent = head.group(1);
                CHECK.that("parameters of " + lines[i].trim(), head.group(2).split(",").length <= 7);
            } else if (from >= 0 && lines[i].equals(indent + "}")) {
                CHECK.that("lines of " + lines[from].trim(), i - from < 70);
                from = -1;
            }
        }
    }
}
