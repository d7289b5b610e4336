import java.io.IOException;
import java.nio.file.Files;
import java.nio.file.Path;
import java.util.BitSet;
import java.util.Map;
import java.util.TreeMap;
import java.util.regex.Matcher;
import java.util.regex.Pattern;

/**
 * The document's terms and promises, and which of their words a test has quoted. A word that none
 * quotes is a wrong answer too: so no sentence is left without a test when the document changes.
 */
final class Document {
    static final int TERMS = 0;
    private static final Path FILE = Path.of("../shared/DOC.md");

    private final Map<Integer, String> texts = new TreeMap<>();
    private final Map<Integer, BitSet> quoted = new TreeMap<>();

    Document() {
        if (!Files.isReadable(FILE)) {
            System.out.println(FILE + " is not there: quotes are not compared with it");
            return;
        }
        try {
            take(Files.readString(FILE));
        } catch (IOException e) {
            throw new IllegalStateException(e);
        }
    }

    private void take(String document) {
        Matcher section = Pattern.compile("(?ms)^## (.*?)$(.*?)(?=^## |\\z)").matcher(document);
        while (section.find()) {
            String title = section.group(1);
            String text = section.group(2).replaceAll("\\s+", " ");
            if (title.equals("Terms")) {
                add(TERMS, text.replaceAll("Ahead of the calls .*", "").replaceAll("```(text)?|======== \\d", " "));
            } else if (title.startsWith("Promise ")) {
                int number = Integer.parseInt(title.replaceAll("Promise (\\d+):.*", "$1"));
                add(number, text.replaceFirst("`[^`]*`:", ""));
            }
        }
    }

    private void add(int section, String text) {
        texts.put(section, text.replaceAll("\\s+", " "));
        quoted.put(section, new BitSet());
    }

    /** Whether the section has these words; they are quoted now. */
    boolean quote(int section, String words) {
        if (texts.isEmpty()) {
            return true;
        }
        int at = texts.getOrDefault(section, "").indexOf(words);
        if (at < 0) {
            return false;
        }
        quoted.get(section).set(at, at + words.length());
        return true;
    }

    void lookForWordsThatNoneQuotes(Checks checks) {
        for (int section : texts.keySet()) {
            String text = texts.get(section);
            StringBuilder left = new StringBuilder();
            for (int i = 0; i < text.length(); i++) {
                left.append(quoted.get(section).get(i) ? ' ' : text.charAt(i));
            }
            String words = left.toString().replaceAll("\\s+", " ").trim();
            String of = section == TERMS ? "the terms" : "promise " + section;
            checks.holds("a test quotes all words of " + of + ", also: " + words, words.isEmpty());
        }
    }
}
