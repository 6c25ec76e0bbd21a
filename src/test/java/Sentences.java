import java.io.IOException;
import java.io.UncheckedIOException;
import java.nio.file.Files;
import java.nio.file.Path;
import java.util.ArrayList;
import java.util.LinkedHashMap;
import java.util.List;
import java.util.Map;

/**
 * The sentences of the document, each with its test. A test begins with a quotation of what it
 * tests; at the end every quotation must stand in the document, and nothing that the document
 * says may be left unquoted.
 */
final class Sentences {
    private static final Path DOCUMENT = Path.of("../shared/DOC.md");
    // The face is FaceTest's, and what is not promised can't be broken.
    private static final List<String> WITHOUT_TEST = List.of("The public face", "Not promised");

    private static final class Section {
        final String words;
        final boolean[] quoted;

        Section(String words) {
            this.words = words;
            this.quoted = new boolean[words.length()];
        }

        /** Marks the first place of the quotation that isn't marked yet; false if there is none. */
        boolean mark(String quotation) {
            int found = -1;
            for (int at = words.indexOf(quotation); at >= 0; at = words.indexOf(quotation, at + 1)) {
                found = found < 0 || quoted[found] && !quoted[at] ? at : found;
            }
            for (int i = 0; found >= 0 && i < quotation.length(); i++) {
                quoted[found + i] = true;
            }
            return found >= 0;
        }

        String unquoted() {
            StringBuilder left = new StringBuilder();
            for (int i = 0; i < words.length(); i++) {
                left.append(quoted[i] ? ' ' : words.charAt(i));
            }
            return left.toString().replaceAll("[^A-Za-z0-9]+", " ").trim();
        }
    }

    private final Map<String, Section> sections = new LinkedHashMap<>();
    private final List<Due> tests = new ArrayList<>();
    private final Due own = new Due("sentences");
    private String heading = "";

    Sentences() {
        if (!Files.exists(DOCUMENT)) {
            System.out.println("sentences: there is no " + DOCUMENT + " to compare with");
            return;
        }
        try {
            cut(Files.readAllLines(DOCUMENT));
        } catch (IOException e) {
            throw new UncheckedIOException(e);
        }
    }

    private void cut(List<String> lines) {
        String name = "";
        StringBuilder words = new StringBuilder();
        for (String line : lines) {
            if (line.startsWith("## ")) {
                keep(name, words);
                name = line.substring(3).trim();
                words.setLength(0);
            } else if (!line.matches("`.*`|---- .*|# .*")) {
                words.append(line).append('\n');
            }
        }
        keep(name, words);
    }

    private void keep(String name, StringBuilder words) {
        if (!name.isEmpty() && !WITHOUT_TEST.contains(name)) {
            sections.put(name, new Section(plain(words.toString())));
        }
    }

    private static String plain(String words) {
        return words.replaceAll("\\s+", " ").trim();
    }

    /** The quotations that follow stand in this section. */
    void in(String newHeading) {
        heading = newHeading;
        own.holds("there is a section " + heading, sections.isEmpty() || sections.containsKey(heading));
    }

    /** Begins the test of a sentence; its other words may be told too if they stand apart. */
    Due says(String... quotations) {
        names(quotations);
        Due test = new Due(heading.replaceAll(":.*", "") + ", \"" + quotations[0] + "\"");
        tests.add(test);
        return test;
    }

    /** Words that only introduce what other sentences say. */
    void names(String... quotations) {
        for (String quotation : quotations) {
            Section section = sections.get(heading);
            own.holds(heading + " says: " + quotation,
                    sections.isEmpty() || section != null && section.mark(plain(quotation)));
        }
    }

    /** The section's words, empty if there is no document. */
    String words() {
        Section section = sections.get(heading);
        return section == null ? "" : section.words;
    }

    void end() {
        sections.forEach((name, section) ->
                own.holds("nothing of " + name + " is left without a test: " + section.unquoted(),
                        section.unquoted().isEmpty()));
        int asked = 0;
        int wrong = 0;
        for (Due test : tests) {
            own.holds(test.test() + " has a test", test.asked() > 0);
            asked += test.asked();
            wrong += test.wrong();
        }
        System.out.println("sentences: " + tests.size() + " tests, " + asked + " answers, "
                + wrong + " wrong");
        own.is("wrong answers", wrong, 0);
        own.end();
    }
}
