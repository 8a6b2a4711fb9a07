import java.io.IOException;
import java.io.UncheckedIOException;
import java.nio.file.Files;
import java.nio.file.Path;
import java.util.ArrayList;
import java.util.List;

/**
 * The sentences of ../shared/DOC.md. A test tells of which one its checks are; at the end each sentence of the
 * sections that are due must have had a check, so that none is left out. It runs in the project's folder.
 */
final class Doc {
    private static final Path DOCUMENT = Path.of("../shared/DOC.md");

    private record Sentence(String section, String words) {
    }

    private static final List<Sentence> SENTENCES = read();
    private static final List<Sentence> CHECKED = new ArrayList<>();
    private static Sentence at = null;
    private static int checksBefore = 0;

    private Doc() {
    }

    /** What follows is of the sentence of that section that has these words in it. */
    static void at(String section, String words) {
        leave();
        int found = 0;
        for (Sentence sentence : SENTENCES) {
            if (sentence.section().equals(section) && sentence.words().contains(words)) {
                at = sentence;
                found++;
            }
        }
        Check.about(section + ", \"" + words + "\"");
        Check.is("sentences with these words", found, 1);
        checksBefore = Check.checks();
    }

    static void at(int promise, String words) {
        at("Promise " + promise, words);
    }

    /** Ends the test, of which the named sections are due as a whole. */
    static void end(String test, String... sections) {
        leave();
        Check.about("sentences without a check");
        for (String section : sections) {
            for (Sentence sentence : SENTENCES) {
                if (sentence.section().equals(section)) {
                    Check.is(section + ", \"" + sentence.words() + "\"", CHECKED.contains(sentence), true);
                }
            }
        }
        Check.end(test);
    }

    static String[] promises(int from, int to) {
        String[] sections = new String[to - from + 1];
        for (int promise = from; promise <= to; promise++) {
            sections[promise - from] = "Promise " + promise;
        }
        return sections;
    }

    private static void leave() {
        if (at != null && Check.checks() > checksBefore) {
            CHECKED.add(at);
        }
        at = null;
    }

    private static List<Sentence> read() {
        List<Sentence> all = new ArrayList<>();
        String section = "";
        for (String line : lines()) {
            if (line.startsWith("#")) {
                section = line.replaceFirst("#+ ", "").replaceFirst(":.*", "");
            } else if (isPromising(line)) {
                for (String words : line.split("(?<=\\.) ")) {
                    all.add(new Sentence(section, words));
                }
            }
        }
        return all;
    }

    /** A line of words alone is a heading, and the interface's own headings promise nothing. */
    private static boolean isPromising(String line) {
        return !line.isEmpty() && !line.matches("[A-Za-z, ]+") && !line.startsWith("Ahead of the calls");
    }

    private static List<String> lines() {
        try {
            return Files.readAllLines(DOCUMENT);
        } catch (IOException missing) {
            throw new UncheckedIOException(missing);
        }
    }
}
