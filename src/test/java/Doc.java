import java.io.IOException;
import java.nio.file.Files;
import java.nio.file.Path;
import java.util.regex.Matcher;
import java.util.regex.Pattern;

/** The document's own words: which of them are tested now, and whether all of them were. */
final class Doc {
    private static final Pattern WORDS = Pattern.compile("[\\w-]+");
    /** What only names what comes behind it: titles, signatures, which calls a row stands ahead of. */
    private static final Pattern TITLES = Pattern.compile("## (?:Terms|Promise \\d+: [\\w ]+?(?= `))|`(?:int|long|ColdShod)\\b[^`]*`:"
        + "|======== \\d\\b|Ahead of the calls [^:]*: ----");
    private static final Path FILE = Path.of("../shared/DOC.md");
    /** Empty where there is no document: then the class is tested all the same, and its words are not looked at. */
    private static final String TEXT = Files.exists(FILE) ? read() : "";
    private static final boolean[] SAID = new boolean[TEXT.length()];
    private static String latest = "";

    private Doc() {
    }

    private static String read() {
        try {
            return Files.readString(FILE).replace("```text", " ").replace("```", " ").replaceAll("\\s+", " ");
        } catch (IOException e) {
            throw new IllegalStateException(e);
        }
    }

    /** What comes now tests this sentence. */
    static void says(String words) {
        latest = "\"" + (words.length() > 60 ? words.substring(0, 60) + " .." : words) + "\"";
        if (TEXT.isEmpty()) return;
        int at = TEXT.indexOf(words);
        Due.holds("the document says " + words, at >= 0);
        for (; at >= 0; at = TEXT.indexOf(words, at + 1)) {
            for (int i = at; i < at + words.length(); i++) SAID[i] = true;
        }
    }

    static String latest() {
        return latest;
    }

    /** Every word that promises something stands in a sentence that was tested. */
    static void allSaid() {
        if (TEXT.isEmpty()) System.out.println("no " + FILE + ": its words were not looked at");
        if (TEXT.isEmpty()) return;
        int from = TEXT.indexOf("An object is used"), face = TEXT.indexOf("## The public face");
        int terms = TEXT.indexOf("## Terms"), end = TEXT.indexOf("## Not promised");
        Due.holds("the document has its parts", 0 < from && from < face && face < terms && terms < end);
        Matcher title = TITLES.matcher(TEXT);
        while (title.find()) java.util.Arrays.fill(SAID, title.start(), title.end(), true);
        allSaid(from, face);
        allSaid(terms, end);
    }

    private static void allSaid(int from, int end) {
        Matcher word = WORDS.matcher(TEXT).region(from, end);
        while (word.find()) {
            String around = TEXT.substring(Math.max(0, word.start() - 40), Math.min(TEXT.length(), word.end() + 40));
            Due.holds("a sentence that is tested has '" + word.group() + "' in: .." + around + "..",
                SAID[word.start()] && SAID[word.end() - 1]);
        }
    }
}
