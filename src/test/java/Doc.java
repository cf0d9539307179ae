import java.io.IOException;
import java.nio.file.Files;
import java.nio.file.Path;
import java.util.regex.Matcher;
import java.util.regex.Pattern;

/** The document's own words: which of them are tested now, and whether all that name a bound were. */
final class Doc {
    /** Words by which the document names a bound, an edge or a refusal. */
    private static final Pattern BOUNDS = Pattern.compile("-?\\d+ \\.\\. \\d+|at most|at least|at first|too early|stays"
        + "|\\b(BAD|FULL|STATE|NOT|VOID|FAULT)\\b|-1[1-4]\\b|\\b[Nn]one\\b|[Ww]ithout|\\bwraps?\\b|by 0|no more|nothing|missing"
        + "|lowest bits|toward 0|\\(cut\\)|of like ones|the first 24|no such|512|above 60|below 0|nobody|how many|unlike");
    private static final Path FILE = Path.of("../shared/DOC.md");
    /** Empty where there is no document: then the bounds are tested all the same, and its words are not looked at. */
    private static final String TEXT = Files.exists(FILE) ? read() : "";
    private static final boolean[] SAID = new boolean[TEXT.length()];
    private static String latest = "";

    private Doc() {
    }

    private static String read() {
        try {
            return Files.readString(FILE).replace("```text", " ").replace("```", " ").replaceAll("\\s+", " ");
        } catch (IOException e) {
            throw new IllegalStateException(e);
        }
    }

    /** What comes now tests this sentence. */
    static void says(String words) {
        latest = "\"" + (words.length() > 60 ? words.substring(0, 60) + " .." : words) + "\"";
        if (TEXT.isEmpty()) return;
        int at = TEXT.indexOf(words);
        Due.holds("the document says " + words, at >= 0);
        for (; at >= 0; at = TEXT.indexOf(words, at + 1)) {
            for (int i = at; i < at + words.length(); i++) SAID[i] = true;
        }
    }

    static String latest() {
        return latest;
    }

    /** Every bound that the document names stands in a sentence that was tested. */
    static void allSaid() {
        if (TEXT.isEmpty()) System.out.println("no " + FILE + ": its words were not looked at");
        if (TEXT.isEmpty()) return;
        int from = TEXT.indexOf("An object is used"), face = TEXT.indexOf("## The public face");
        int terms = TEXT.indexOf("## Terms"), end = TEXT.indexOf("## Not promised");
        Due.holds("the document has its parts", 0 < from && from < face && face < terms && terms < end);
        Matcher bound = BOUNDS.matcher(TEXT);
        while (bound.find()) {
            boolean inFace = bound.start() >= face && bound.start() < terms;
            if (bound.start() < from || bound.start() >= end || inFace) continue;
            String around = TEXT.substring(Math.max(0, bound.start() - 40), Math.min(TEXT.length(), bound.end() + 40));
            Due.holds("a sentence that is tested has '" + bound.group() + "' in: .." + around + "..",
                SAID[bound.start()] && SAID[bound.end() - 1]);
        }
    }
}
