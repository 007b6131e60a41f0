import java.io.IOException;
import java.io.UncheckedIOException;
import java.nio.file.Files;
import java.nio.file.Path;
import java.util.LinkedHashSet;
import java.util.Set;

/**
 * The sentences of one section of the document, each with a test of its own. What is quoted is held
 * against the document in the end, so that no sentence is forgotten and none is quoted wrongly.
 */
final class Sentences {
    private static final Path DOCUMENT = Path.of("../shared/DOC.md");
    private static final Set<String> QUOTED = new LinkedHashSet<>();

    private final String section;

    private Sentences(String section) {
        this.section = section;
    }

    static Sentences of(String section) {
        return new Sentences(section);
    }

    Sentences says(String sentence, Runnable test) {
        quote(sentence);
        int done = Check.done();
        int wrong = Check.wrong();
        Check.same("the test's own calls", "fine", () -> {
            test.run();
            return "fine";
        });
        Check.same("the number of checks is more than none", true, () -> Check.done() > done + 2);
        if (Check.wrong() > wrong) {
            System.out.println("  so this does not hold: " + section + ": " + sentence);
        }
        return this;
    }

    /** For what a call cannot break: titles, and what the document leaves free. */
    Sentences tellsNoCase(String... sentences) {
        for (String sentence : sentences) {
            quote(sentence);
        }
        return this;
    }

    private void quote(String sentence) {
        String whole = section + ": " + sentence;
        Check.same("quoted once: " + whole, true, () -> QUOTED.add(whole));
    }

    static void compareWithDocument() {
        Set<String> document = document();
        for (String sentence : document) {
            Check.same("has a test: " + sentence, true, () -> QUOTED.contains(sentence));
        }
        for (String sentence : QUOTED) {
            Check.same("stands in the document: " + sentence, true, () -> document.contains(sentence));
        }
    }

    /** All sentences with their section: a promise, or a title in capitals inside the description. */
    private static Set<String> document() {
        Set<String> sentences = new LinkedHashSet<>();
        String section = "";
        boolean code = false;
        for (String line : lines()) {
            String text = line.strip().replaceAll("\\s+", " ");
            code ^= text.startsWith("```");
            if (text.startsWith("#")) {
                section = text.replaceAll("^#+ |:.*", "");
            } else if (!code && !text.isEmpty() && !text.startsWith("`") && !text.startsWith("----")) {
                for (String sentence : text.split("(?<=\\.) (?=[A-Za-z0-9(])")) {
                    if (sentence.matches("[A-Z ]+\\.")) {
                        section = sentence.replace(".", "");
                    } else {
                        sentences.add(section + ": " + sentence);
                    }
                }
            }
        }
        return sentences;
    }

    private static Iterable<String> lines() {
        try {
            return Files.readAllLines(DOCUMENT);
        } catch (IOException e) {
            throw new UncheckedIOException(e);
        }
    }
}
