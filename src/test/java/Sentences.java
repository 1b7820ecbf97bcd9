import java.io.IOException;
import java.io.UncheckedIOException;
import java.nio.file.Files;
import java.nio.file.Path;
import java.util.TreeMap;
import java.util.regex.Matcher;
import java.util.regex.Pattern;

/** The sentences of the document: each one is said ahead of the checks that hold it, and none may be left out. */
final class Sentences {
    /** The part "## Terms", as the promises have their numbers. */
    static final int TERMS = 0;

    private static final TreeMap<Integer, String> LEFT = new TreeMap<>();
    private static int askedAhead = -1;

    private Sentences() {
    }

    private static String document() {
        try {
            return new String(Files.readAllBytes(Path.of("../shared/DOC.md")));
        } catch (IOException e) {
            throw new UncheckedIOException(e);
        }
    }

    private static String part(int number) {
        String head = number == TERMS ? "## Terms\n" : "## Promise " + number + ": [^\n]*\n";
        Matcher m = Pattern.compile("(?s)\n" + head + "(.*?)(?=\n## |\\z)").matcher(document());
        if (!m.find()) {
            return "";
        }
        StringBuilder kept = new StringBuilder("\n");
        for (String line : m.group(1).split("\n")) {
            String told = line.replaceFirst("^`[^`]*\\)(?: throws [^`]*)?`: ", "").replaceFirst("^- ", "");
            // Heads of paragraphs and the remarks of the interface say nothing of what the class does.
            if (!told.startsWith("#") && !told.startsWith("Ahead of the calls") && told.matches(".*[.:;`].*")) {
                kept.append(told).append('\n');
            }
        }
        return kept.toString();
    }

    /** The next checks are about this sentence, which has to stand in the part, word for word. */
    static void says(int part, String sentence) {
        endLast();
        String left = LEFT.computeIfAbsent(part, Sentences::part);
        // Of a promise only a whole line is a sentence; in the terms a line holds many.
        int at = part == TERMS ? left.indexOf(sentence) : left.indexOf("\n" + sentence + "\n");
        Check.isAbout(part == TERMS ? "terms, " + sentence + ": " : "promise " + part + ", " + sentence + ": ");
        Check.same("stands in the document", at >= 0, true);
        if (at >= 0) {
            int from = part == TERMS ? at : at + 1;
            LEFT.put(part, left.substring(0, from) + "|" + left.substring(from + sentence.length()));
        }
        askedAhead = Check.asked();
    }

    private static void endLast() {
        if (askedAhead >= 0) {
            Check.same("is tested", Check.asked() > askedAhead, true);
        }
        askedAhead = -1;
        Check.isAbout("");
    }

    /** Looks whether each sentence of these parts was said. */
    static void allSaid(int first, int last) {
        endLast();
        for (int part = first; part <= last; part++) {
            String left = LEFT.computeIfAbsent(part, Sentences::part);
            String words = left.replaceAll("(?m)^[\\s|.;:]*$", "").trim();
            Check.same("part " + part + ", without a test", words, "");
        }
    }
}
