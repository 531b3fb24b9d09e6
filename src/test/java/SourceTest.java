import java.io.IOException;
import java.nio.file.Files;
import java.nio.file.Path;
import java.util.List;
import java.util.regex.Matcher;
import java.util.regex.Pattern;

/** Looks for those breaches of LANGUAGE.md that can be read off the text of the class. */
public final class SourceTest {
    private static final int LONGEST_METHOD = 60;
    private static final int MOST_CLASSES = 12;
    private static final int MOST_PARAMETERS = 7;

    /** What the text may not hold, each with the rule that says so. */
    private static final String[] FORBIDDEN = {
        "->", "rule 2: a lambda or a new switch",
        "::", "rule 2: a method reference",
        "\\bpackage\\b", "rule 1: a package line",
        "\\bimport (?!java\\.util\\.Arrays;)", "rule 4: an import",
        "\\bcatch\\b|\\btry\\b|\\bfinally\\b", "rule 6: nothing here is caught",
        "\\bsynchronized\\b|\\bassert\\b", "rule 6: synchronized or assert",
        "\\bwhile\\b", "rule 9: a loop whose end is not in its own lines",
        "\\b(Math|Integer|Long)\\.\\w*Exact\\b", "rule 4: a function that throws",
        "\\b(System\\.(?!arraycopy)|Thread|Random|Object\\b)", "rule 13: outside things",
        "\\b(double|float|Double|Float)\\b", "rule 3: nothing here needs them",
        "throw new (?!(IndexOutOfBoundsException|IllegalArgumentException)\\()", "rule 6: an exception",
        "[^\\x00-\\x7f]", "rule 4: a sign above 127",
        "static (?!final|class|abstract|interface|enum|record)\\w+(\\[\\])* \\w+( =|;)", "rule 5: static state",
    };

    private SourceTest() {
    }

    public static void main(String[] args) throws IOException {
        Checks checks = new Checks("SourceTest");
        List<String> lines = Files.readAllLines(Path.of("src/main/java/PathReservations.java"));
        String text = withoutComments(String.join("\n", lines));
        for (int i = 0; i < FORBIDDEN.length; i += 2) {
            Matcher matcher = Pattern.compile(FORBIDDEN[i]).matcher(text);
            checks.same(FORBIDDEN[i + 1], matcher.find() ? matcher.group() : "", "");
        }
        checkHeads(checks, text);
        checkMethods(checks, lines);
        checks.end();
    }

    private static String withoutComments(String text) {
        return text.replaceAll("(?s)/\\*.*?\\*/", "").replaceAll("//[^\n]*", "");
    }

    private static void checkHeads(Checks checks, String text) {
        Matcher classes = Pattern.compile("\\b(class|enum|interface|record) \\w+").matcher(text);
        checks.equal("rule 11: number of classes is small", classes.results().count() <= MOST_CLASSES ? 1 : 0, 1);
        Matcher heads = Pattern.compile("\\n +[\\w\\[\\] ]+ \\w+\\(([^()]*)\\)[\\w\\s,]*\\{").matcher(text);
        int found = 0;
        while (heads.find()) {
            found++;
            checks.equal("rule 11: parameters of" + heads.group().strip(),
                heads.group(1).split(",").length <= MOST_PARAMETERS ? 1 : 0, 1);
        }
        checks.equal("methods were found", found > 57 ? 1 : 0, 1);
    }

    /** A method ends with a brace at the depth at which it began. */
    private static void checkMethods(Checks checks, List<String> lines) {
        int start = -1;
        String end = "";
        for (int i = 0; i < lines.size(); i++) {
            String line = lines.get(i);
            if (start < 0 && line.matches(" {4,8}[\\w\\[\\]]+ .*\\(.*") && !line.contains("=")) {
                start = i;
                end = line.replaceAll("\\S.*", "") + "}";
            } else if (start >= 0 && line.equals(end)) {
                checks.equal("rule 11: lines of " + lines.get(start).strip() + " are few",
                    i - start + 1 <= LONGEST_METHOD ? 1 : 0, 1);
                start = -1;
            }
        }
        checks.equal("the last method ended", start, -1);
    }
}
