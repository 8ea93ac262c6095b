import java.io.IOException;
import java.nio.file.Files;
import java.nio.file.Path;
import java.util.List;
import java.util.Set;
import java.util.regex.Matcher;
import java.util.regex.Pattern;

/** Looks over the text of the class for what LANGUAGE.md rules out, as far as single words tell it. */
public final class LanguageTest {
    private static final Set<String> IMPORTS = Set.of("import java.util.ArrayList;");
    private static final List<String> RULED_OUT = List.of("->", "::", "Exact\\(", "\\btry\\b", "\\bcatch\\b",
            "\\bfinally\\b", "\\bsynchronized\\b", "\\bassert\\b", "\\bpackage\\b", "\\bequals\\b", "\\bhashCode\\b",
            "\\btoString\\b", "\\bSystem\\b", "\\bThread\\b", "\\bRandom\\b", "\\bprotected\\b", "\\bdouble\\b",
            "\\bfloat\\b", "\\bvar\\b", "\\brecord\\b", "\\(int\\[\\]\\)", "\\.stream\\(", "static \\{", "for \\([A-Z]\\w* \\w+ :");
    private static final Set<String> MAY_BE_THROWN = Set.of("IllegalStateException", "IllegalArgumentException",
            "IndexOutOfBoundsException");
    private static final Check CHECK = new Check();

    public static void main(String[] args) throws IOException {
        List<String> lines = Files.readAllLines(Path.of("src/main/java/HandArchive.java"));
        StringBuilder code = new StringBuilder();
        for (String line : lines) {
            boolean isComment = line.trim().startsWith("//") || line.trim().startsWith("/**");
            code.append(isComment ? "" : line).append("\n");
            if (line.startsWith("import")) {
                CHECK.due(line + " may be", IMPORTS.contains(line), true);
            }
            CHECK.due("signs of " + line, line.chars().allMatch(c -> c >= 32 && c < 127), true);
        }
        for (String word : RULED_OUT) {
            CHECK.due(word + " is there", Pattern.compile(word).matcher(code).find(), false);
        }
        thrown(code.toString());
        sizes(lines, code.toString());
        CHECK.end();
    }

    private static void thrown(String code) {
        Matcher throwing = Pattern.compile("throw (.*)").matcher(code);
        while (throwing.find()) {
            Matcher form = Pattern.compile("new (\\w+)\\(\"[^\"]*\"\\);").matcher(throwing.group(1));
            CHECK.due(throwing.group() + " is of the form", form.matches() && MAY_BE_THROWN.contains(form.group(1)),
                    true);
        }
    }

    private static void sizes(List<String> lines, String code) {
        Matcher classes = Pattern.compile("\\bclass \\w+ \\{").matcher(code);
        int count = 0;
        while (classes.find()) {
            count++;
        }
        CHECK.due("at most twelve classes, of " + count, count <= 12, true);
        int began = 0;
        for (int i = 0; i < lines.size(); i++) {
            String line = lines.get(i);
            if (line.matches(" {4,8}\\S.*\\(.*") && !line.contains(";")) {
                began = i;
            }
            if (line.matches(" {4}( {4})?\\}")) {
                CHECK.due("up to line " + (i + 1) + " some sixty lines at most", i - began <= 60, true);
            }
        }
    }
}
