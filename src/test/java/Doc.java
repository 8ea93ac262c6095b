import java.io.IOException;
import java.nio.file.Files;
import java.nio.file.Path;
import java.util.Map;
import java.util.Set;
import java.util.TreeMap;
import java.util.TreeSet;

/** The sentences of ../shared/DOC.md, by promise, each cut at its semicolons; those of its terms are under 0. */
final class Doc {
    private static final Path FILE = Path.of("../shared/DOC.md");
    private static final int ELSEWHERE = -1;

    private final Map<Integer, Set<String>> sentences = new TreeMap<>();

    Doc() throws IOException {
        int promise = ELSEWHERE;
        for (String line : Files.readAllLines(FILE)) {
            if (line.startsWith("## ")) {
                promise = promiseOf(line);
            } else if (promise != ELSEWHERE && !line.startsWith("#") && !line.startsWith("Ahead of the calls")) {
                cut(promise, line);
            }
        }
    }

    private static int promiseOf(String heading) {
        if (heading.equals("## Terms")) {
            return Bounds.TERMS;
        }
        boolean isPromise = heading.startsWith("## Promise ");
        return isPromise ? Integer.parseInt(heading.substring(11, heading.indexOf(':'))) : ELSEWHERE;
    }

    private void cut(int promise, String line) {
        // The face of a call stands ahead of what it says, in backquotes; its words are none of a sentence.
        String said = line.replaceFirst("^- ", "").replaceFirst("^`(int |boolean |HandArchive\\()[^`]*`: ", "");
        for (String part : said.split("\\. |; | (?=@)")) {
            String sentence = part.trim().replaceFirst("\\.$", "");
            if (!sentence.isEmpty()) {
                sentences.computeIfAbsent(promise, key -> new TreeSet<>()).add(sentence);
            }
        }
    }

    boolean has(int promise, String sentence) {
        return sentences.getOrDefault(promise, Set.of()).contains(sentence);
    }

    /** How many of the promises, and the terms, have sentences. */
    int size() {
        return sentences.size();
    }

    Set<String> all() {
        Set<String> all = new TreeSet<>();
        sentences.forEach((promise, row) -> row.forEach(sentence -> all.add(named(promise, sentence))));
        return all;
    }

    static String named(int promise, String sentence) {
        return (promise == Bounds.TERMS ? "Terms" : "Promise " + promise) + ", \"" + sentence + "\"";
    }
}
