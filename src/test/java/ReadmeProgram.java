import java.io.IOException;
import java.nio.file.Files;
import java.nio.file.Path;
import java.util.ArrayList;
import java.util.List;
import java.util.regex.Matcher;
import java.util.regex.Pattern;

/**
 * Writes the examples of README.md as one program, in which each call has to answer, or to throw, what its comment
 * says. A call without such a comment is refused, so that no example stands there unchecked.
 */
public final class ReadmeProgram {
    private static final Pattern MADE = Pattern.compile("HandArchive x = new HandArchive\\(\\);");
    private static final Pattern CALL = Pattern.compile("(?:int (\\w+) = )?(x\\.\\w+\\(.*\\)); +// (\\w+): .+");

    private ReadmeProgram() {
    }

    public static void main(String[] args) throws IOException {
        StringBuilder text = new StringBuilder("public final class YourProgram {\n");
        text.append("    public static void main(String[] args) {\n        Check check = new Check();\n");
        for (String line : examples()) {
            text.append("        ").append(checked(line)).append('\n');
        }
        text.append("        check.end();\n    }\n}\n");
        Files.writeString(Path.of(args[0]), text.toString());
    }

    /** The lines of all examples, in their order. */
    static List<String> examples() throws IOException {
        List<String> examples = new ArrayList<>();
        boolean isExample = false;
        for (String line : Files.readAllLines(Path.of("README.md"))) {
            if (line.startsWith("```")) {
                isExample = line.equals("```java");
            } else if (isExample && !line.isBlank()) {
                examples.add(line);
            }
        }
        return examples;
    }

    private static String checked(String line) {
        if (MADE.matcher(line).matches()) {
            return line;
        }
        Matcher call = CALL.matcher(line);
        if (!call.matches()) {
            throw new IllegalStateException("no call with an answer: " + line);
        }
        String name = call.group(1);
        String run = call.group(2);
        String answer = call.group(3);
        String told = "\"README.md: " + run + "\"";
        if (answer.endsWith("Exception")) {
            return "check.throwsJust(" + answer + ".class, " + told + ", () -> " + run + ");";
        }
        String due = answer.matches("\\d+|true|false") ? answer : "HandArchive." + answer;
        String ahead = name == null ? "" : "int " + name + " = " + run + "; ";
        return ahead + "check.due(" + told + ", " + (name == null ? run : name) + ", " + due + ");";
    }
}
