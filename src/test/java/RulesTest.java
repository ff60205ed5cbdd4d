import java.nio.file.Files;
import java.nio.file.Path;
import java.util.regex.Matcher;
import java.util.regex.Pattern;

/** Rules of LANGUAGE.md that can be seen in the source: words and forms that do not stand there. */
public final class RulesTest {
    private static final String[] NEVER = {
        "\\bimport\\b", "\\bpackage\\b", "\\btry\\b", "\\bcatch\\b", "\\bfinally\\b", "\\bsynchronized\\b",
        "\\bassert\\b", "->", "::", "\\bprotected\\b", "\\bthrow\\b", "\\bSystem\\.(?!arraycopy)", "\\bThread\\b",
        "\\bRandom\\b", "Exact\\(", "\\bhashCode\\b", "\\bequals\\b", "\\btoString\\b", "static \\{",
        "\\bdouble\\b", "\\bfloat\\b", "\\bnative\\b", "\\bvar\\b", "\\bObject\\b"
    };
    private static final int MOST_LINES_OF_A_METHOD = 60;
    private static final int MOST_PARAMETERS = 7;

    public static void main(String[] args) throws Exception {
        Path root = Path.of(System.getProperty("root", "."));
        String source = Files.readString(root.resolve("src/main/java/LessonDesk.java"));
        String code = withoutComments(source);
        for (String word : NEVER) {
            Matcher m = Pattern.compile(word).matcher(code);
            Check.due("no '" + word + "'", !m.find());
        }
        Check.due("signs 1 to 127 alone", source.chars().allMatch(c -> c > 0 && c < 128));
        methods(code);
        Matcher classes = Pattern.compile("\\bclass (\\w+)").matcher(code);
        int many = 0;
        while (classes.find()) {
            many++;
        }
        Check.due("classes: " + many, many <= 12);
        Check.end();
    }

    private static String withoutComments(String source) {
        return source.replaceAll("(?s)/\\*.*?\\*/", "").replaceAll("//[^\n]*", "");
    }

    private static void methods(String code) {
        Matcher head = Pattern.compile("(?m)^( +)(?:\\w+(?:\\[\\])? )*\\w+\\(([^()]*)\\) \\{$").matcher(code);
        int found = 0;
        while (head.find()) {
            String end = "\n" + head.group(1) + "}";
            int to = code.indexOf(end, head.end());
            long lines = code.substring(head.start(), to < 0 ? code.length() : to).lines().count();
            Check.due("lines of" + head.group(), lines <= MOST_LINES_OF_A_METHOD);
            Check.due("parameters of" + head.group(), head.group(2).split(",").length <= MOST_PARAMETERS);
            found++;
        }
        Check.due("methods found: " + found, found > 60);
    }
}
