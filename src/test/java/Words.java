import java.io.IOException;
import java.nio.file.Files;
import java.nio.file.Path;
import java.util.ArrayList;
import java.util.LinkedHashMap;
import java.util.List;
import java.util.Map;
import java.util.regex.Matcher;
import java.util.regex.Pattern;

/**
 * The words of ../shared/DOC.md that tests hold the program to. What a test quotes must stand there, and what a promise
 * says of a parameter or of an answer must be quoted by some test. Runs in the project's folder.
 */
final class Words {
    private static final Path DOCUMENT = Path.of("../shared/DOC.md");
    private static final Pattern PARAMETER = Pattern.compile("(?:^|: )- (`\\w+`: .*)");

    private final Due due;
    private final Map<String, List<String>> lines = new LinkedHashMap<>();
    private final Map<String, List<String>> quoted = new LinkedHashMap<>();
    private String here = "";

    /** Asks a bureau for an answer. */
    interface Asked {
        int of(BorderStamps bureau);
    }

    /** Asks a bureau for an answer, giving a number. */
    interface AskedBy {
        int of(BorderStamps bureau, int number);
    }

    Words(String test) throws IOException {
        due = new Due(test);
        String section = "";
        for (String line : Files.readAllLines(DOCUMENT)) {
            if (line.startsWith("#")) {
                section = line.replaceFirst("^#+ ", "").replaceFirst(":.*", "");
            }
            lines.computeIfAbsent(section, s -> new ArrayList<>()).add(line);
        }
    }

    /** What follows is due by these words of the document. */
    void say(String section, String words) {
        here = section + ", \"" + words + "\": ";
        quoted.computeIfAbsent(section, s -> new ArrayList<>()).add(words);
        due.holds(here + "stands in the document",
            lines.getOrDefault(section, List.of()).stream().anyMatch(line -> line.contains(words)));
    }

    void due(String call, long got, long want) {
        due.is(here + call, got, want);
    }

    void holds(String what, boolean really) {
        due.holds(here + what, really);
    }

    /** Each number is asked of a bureau of its own. */
    void dueOfEach(int[] numbers, String call, AskedBy asked, int want) {
        for (int number : numbers) {
            due(call + " of " + number, asked.of(Ready.traveller(), number), want);
        }
    }

    void end() {
        for (Map.Entry<String, List<String>> section : lines.entrySet()) {
            if (section.getKey().startsWith("Promise ")) {
                section.getValue().forEach(line -> judge(section.getKey(), line));
            }
        }
        due.end();
    }

    private void judge(String section, String line) {
        Matcher parameter = PARAMETER.matcher(line);
        if (parameter.find()) {
            mustBeQuoted(section, parameter.group(1));
        } else if (line.startsWith("Returns ")) {
            for (String clause : line.substring(0, line.length() - 1).split("; ")) {
                mustBeQuoted(section, clause);
            }
        }
    }

    private void mustBeQuoted(String section, String clause) {
        due.holds(section + ", \"" + clause + "\": is quoted by a test",
            quoted.getOrDefault(section, List.of()).stream().anyMatch(words -> words.contains(clause)));
    }
}
