import java.io.IOException;
import java.nio.file.Files;
import java.nio.file.Path;

/**
 * Tests that bear a sentence of ../shared/DOC.md as their name. Each sentence must stand in its section, and a
 * section must be quoted whole: by tests, or as plain words that name nothing which a test could break.
 */
final class Sentence {
    private final String name;
    private final String words;
    private final boolean[] quoted;

    private Sentence(String name, String words) {
        this.name = name;
        this.words = words;
        quoted = new boolean[words.length()];
    }

    /** The document from one mark up to the next one, with all its blanks as single ones. */
    static Sentence section(String from, String to) {
        String doc = document();
        int begin = doc.indexOf(from);
        int end = begin < 0 ? -1 : doc.indexOf(to, begin + from.length());
        Check.yes("the document has a section from " + from + " to " + to, end >= 0);
        return new Sentence(from, end < 0 ? "" : doc.substring(begin + from.length(), end).trim());
    }

    /** A promise, of which the head of its method is quoted already. */
    static Sentence promise(int number) {
        Sentence s = section("## Promise " + number + ": ", number < 30 ? "## Promise " + (number + 1) + ": " : "## Not promised");
        s.mark(s.words.substring(0, s.words.indexOf("`: ") + 2));
        return s;
    }

    private static String document() {
        try {
            return Files.readString(Path.of("../shared/DOC.md")).replaceAll("\\s+", " ");
        } catch (IOException e) {
            Check.yes("../shared/DOC.md can be read: " + e, false);
            return "";
        }
    }

    /** A sentence, or a part of one, with the test that fails when it does not hold. */
    void holds(String quote, Runnable test) {
        mark(quote);
        int before = Check.wrong();
        try {
            test.run();
        } catch (RuntimeException e) {
            Check.yes(e.toString(), false);
        }
        if (Check.wrong() != before) {
            System.out.println("BROKEN, " + name + ": " + quote);
        }
    }

    /** Words that name nothing of their own: what they bring together is tested where it is told. */
    void plain(String quote) {
        mark(quote);
    }

    private void mark(String quote) {
        int at = words.indexOf(quote);
        Check.yes(name + " has: " + quote, at >= 0);
        for (int i = at; at >= 0 && i < at + quote.length(); i++) {
            quoted[i] = true;
        }
    }

    /** Nothing but signs and blanks may be left of the section. */
    void close() {
        StringBuilder left = new StringBuilder();
        for (int i = 0; i < quoted.length; i++) {
            left.append(quoted[i] ? ' ' : words.charAt(i));
        }
        String rest = left.toString().replaceAll("```(text)?", " ").replaceAll("[\\s,;:.]+", " ").trim();
        Check.yes(name + " has words that no test quotes: " + rest, rest.isEmpty());
    }
}
