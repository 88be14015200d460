import java.io.IOException;
import java.nio.file.Files;
import java.nio.file.Path;
import java.util.HashSet;
import java.util.List;
import java.util.Set;
import java.util.regex.Matcher;
import java.util.regex.Pattern;

/** What of LANGUAGE.md can be seen in the program's text. It is run from the project's folder. */
public final class LanguageTest {
    private static final Path PROGRAM = Path.of("src/main/java/CourtWash.java");
    private static final Set<String> LIBRARY = Set.of("Arrays.fill", "Arrays.copyOf", "Arrays.copyOfRange",
            "System.arraycopy", "Math.max", "Math.min", "Math.floorMod", "Integer.bitCount");
    private static final Check CHECK = new Check("LanguageTest");

    public static void main(String[] args) throws IOException {
        String source = Files.readString(PROGRAM);
        CHECK.that("signs are 10 and 32 to 126", source.chars().allMatch(c -> c == 10 || c >= 32 && c <= 126));
        String code = withoutComments(source);
        forbidden(code);
        onlyTheLibrary(code);
        staticsAreFinal(code);
        publicNamesStandOnce(code);
        methodsAreShort(code);
        CHECK.that("some twelve classes", count(code, "\\b(class|interface|enum|record) \\w+") <= 12);
        CHECK.end();
    }

    private static String withoutComments(String source) {
        return source.replaceAll("(?s)/\\*.*?\\*/", "").replaceAll("//[^\n]*", "");
    }

    private static int count(String code, String pattern) {
        Matcher m = Pattern.compile(pattern).matcher(code);
        int n = 0;
        while (m.find()) {
            n++;
        }
        return n;
    }

    private static void forbidden(String code) {
        List<String> patterns = List.of("\\bpackage\\b", "\\bthrow\\b", "\\bthrows\\b", "\\btry\\b", "\\bcatch\\b",
                "\\bsynchronized\\b", "\\bassert\\b", "->", "::", "@", "\\bhashCode\\b", "\\btoString\\b",
                "\\bprotected\\b", "\\bvolatile\\b", "\\bnative\\b", "\\bwhile \\(true\\)", "for \\(;;",
                "Exact\\b", "\\bstatic \\{", "\\bObject\\b", "\" \\+", "\\+ \"");
        for (String p : patterns) {
            CHECK.due("places of " + p, count(code, p), 0);
        }
    }

    private static void onlyTheLibrary(String code) {
        Matcher m = Pattern.compile("\\b(Arrays|System|Math|Integer|Long|List|ArrayList)\\.\\w+").matcher(code);
        while (m.find()) {
            CHECK.that("the library has " + m.group(), LIBRARY.contains(m.group()));
        }
        CHECK.due("imports", count(code, "\\bimport\\b"), 1);
        CHECK.due("import of Arrays", count(code, "import java\\.util\\.Arrays;"), 1);
    }

    private static void staticsAreFinal(String code) {
        Matcher m = Pattern.compile("(?m)^ *(public |private )?static (?!final |class |abstract )[^(\n]*(=|;)").matcher(code);
        CHECK.that("static fields are final", !m.find());
    }

    /** No method beside the public ones bears a public one's name. */
    private static void publicNamesStandOnce(String code) {
        Set<String> names = new HashSet<>();
        Matcher open = Pattern.compile("(?m)^    public int (\\w+)\\(").matcher(code);
        while (open.find()) {
            CHECK.that(open.group(1) + " stands once", names.add(open.group(1)));
        }
        CHECK.due("public methods", names.size(), 27);
        Matcher any = Pattern.compile("(?m)^ +(?:private |static |final )*[\\w\\[\\]]+ (\\w+)\\([^;]*\\) \\{$").matcher(code);
        while (any.find()) {
            CHECK.that(any.group(1) + " is no public name", !names.contains(any.group(1)));
        }
    }

    private static void methodsAreShort(String code) {
        String[] lines = code.split("\n");
        int from = -1;
        String indent = "";
        for (int i = 0; i < lines.length; i++) {
            Matcher head = Pattern.compile("^(    |        )(?! )[\\w\\[\\] ]*\\w+\\(([^()]*)\\) \\{$").matcher(lines[i]);
            if (from < 0 && head.find() && !lines[i].contains("class ")) {
                from = i;
                indent = head.group(1);
                CHECK.that("parameters of " + lines[i].trim(), head.group(2).split(",").length <= 7);
            } else if (from >= 0 && lines[i].equals(indent + "}")) {
                CHECK.that("lines of " + lines[from].trim(), i - from < 60);
                from = -1;
            }
        }
    }
}
