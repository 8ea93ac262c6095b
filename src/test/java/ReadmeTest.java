import java.io.IOException;
import java.lang.reflect.Field;
import java.lang.reflect.Method;
import java.lang.reflect.Modifier;
import java.nio.file.Files;
import java.nio.file.Path;
import java.util.List;
import java.util.Set;
import java.util.TreeSet;
import java.util.regex.Matcher;
import java.util.regex.Pattern;
import java.util.stream.Collectors;
import java.util.stream.Stream;

/** What README.md says of the class, its tests and .ci/run, apart from its examples, which ReadmeProgram checks. */
public final class ReadmeTest {
    private static final Path TESTS = Path.of("src/test/java");
    private static final Pattern ROW = Pattern.compile("\\| `(\\w+Test)` \\| (.*) \\|");
    private static final Pattern SPAN = Pattern.compile("(\\d+)(?: (?:to|and) (\\d+))?");
    private static final Pattern LIMITS = Pattern.compile("at most (\\d+) signs, (\\d+) items, (\\d+) faces and (\\d+) "
            + "rules; (\\d+) clips in all, those that are gone among them; (\\d+) marks of a coder on a tier of a clip");
    private static final Check CHECK = new Check();

    interface Numbered {
        int call(int number);
    }

    public static void main(String[] args) throws IOException {
        String text = Files.readString(Path.of("README.md"));
        wholeFace(String.join("\n", ReadmeProgram.examples()));
        table(text);
        names(text.replaceAll("(?s)```.*?```", ""));
        limits(text.replaceAll("\\s+", " "));
        run(text.replaceAll("\\s+", " "));
        CHECK.end();
    }

    /** There is an example of each call and of each constant. */
    private static void wholeFace(String examples) {
        for (Method method : HandArchive.class.getDeclaredMethods()) {
            if (Modifier.isPublic(method.getModifiers())) {
                CHECK.due("an example of " + method.getName(), examples.contains("x." + method.getName() + "("), true);
            }
        }
        for (Field constant : HandArchive.class.getDeclaredFields()) {
            if (Modifier.isPublic(constant.getModifiers())) {
                CHECK.due("an example with " + constant.getName(),
                        examples.contains("HandArchive." + constant.getName()), true);
            }
        }
        for (String thrown : List.of("IndexOutOfBounds", "IllegalArgument", "IllegalState")) {
            CHECK.due("an example of " + thrown, examples.contains("// " + thrown + "Exception: "), true);
        }
    }

    /** The table names just the tests that there are, and for each promise one. */
    private static void table(String text) throws IOException {
        Set<String> named = new TreeSet<>();
        Set<Integer> promises = new TreeSet<>();
        Matcher row = ROW.matcher(text);
        while (row.find()) {
            named.add(row.group(1));
            Matcher span = SPAN.matcher(row.group(2));
            if (span.lookingAt()) {
                int last = Integer.parseInt(span.group(2) == null ? span.group(1) : span.group(2));
                for (int promise = Integer.parseInt(span.group(1)); promise <= last; promise++) {
                    promises.add(promise);
                }
            }
        }
        Set<String> there;
        try (Stream<Path> files = Files.list(TESTS)) {
            there = files.map(file -> file.getFileName().toString()).filter(name -> name.endsWith("Test.java"))
                    .map(name -> name.replace(".java", "")).collect(Collectors.toCollection(TreeSet::new));
        }
        CHECK.due("the table names " + named + ", there are " + there + "; alike", named.equals(there), true);
        for (int promise = 1; promise <= 22; promise++) {
            CHECK.due("the table has a test of promise " + promise, promises.contains(promise), true);
        }
        CHECK.due("promises in the table", promises.size(), 22);
    }

    /** Files and classes of tests that the page names are there. */
    private static void names(String words) {
        Matcher name = Pattern.compile("`([^`]+)`").matcher(words);
        while (name.find()) {
            String word = name.group(1);
            if (word.matches("[A-Z][a-z]\\w*") && !word.endsWith("Exception")) {
                CHECK.due("there is a " + word, Files.exists(TESTS.resolve(word + ".java")), true);
            } else if (word.matches("[\\w./]*(/|\\.md)[\\w./]*")) {
                CHECK.due("there is " + word, Files.exists(Path.of(word)), true);
            }
        }
    }

    private static void limits(String text) {
        Matcher limits = LIMITS.matcher(text);
        CHECK.due("the limits are told", limits.find(), true);
        HandArchive x = new HandArchive();
        most("signs", limits.group(1), i -> x.sign(i / 16, 0, 0, i / 4 % 4, i % 4, 0, 0));
        most("items", limits.group(2), i -> x.item(HandArchive.SIGN, 0, 0, 0));
        most("faces", limits.group(3), i -> x.face(2, i, i));
        most("rules", limits.group(4), i -> x.rule(0));
        most("clips", limits.group(5), i -> i % 2 == 0 ? x.take(0) + x.withdraw(0) : x.take(1));
        most("marks", limits.group(6), i -> x.mark(1, 0, 0, i, i + 1, 0));
    }

    private static void most(String what, String told, Numbered call) {
        int most = Integer.parseInt(told);
        for (int i = 0; i < most; i++) {
            call.call(i);
        }
        CHECK.throwsJust(IllegalStateException.class, "one more of the " + most + " " + what, () -> call.call(most));
    }

    /** The page and .ci/run tell of the same places. */
    private static void run(String text) throws IOException {
        String script = Files.readString(Path.of(".ci/run"));
        CHECK.due(".ci/run may be run", Files.isExecutable(Path.of(".ci/run")), true);
        for (String place : List.of("src/test/java", "../shared/tests", "build/readme/YourProgram.java")) {
            CHECK.due("the page tells of " + place, text.contains("`" + place + "`"), true);
            CHECK.due(".ci/run uses " + place, script.contains(place), true);
        }
        CHECK.due("of the release", text.contains("--release 17") && script.contains("--release 17"), true);
    }
}
