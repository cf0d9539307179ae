import java.io.IOException;
import java.nio.file.Files;
import java.nio.file.Path;
import java.util.regex.Matcher;
import java.util.regex.Pattern;

/** The example in README.md answers as it says there, and README.md names every call and every refusal. */
public final class ReadmeTest {
    private static final Pattern LINE = Pattern.compile("^forge\\.(\\w+)\\(([^)]*)\\);\\s+// (-?\\w+)", Pattern.MULTILINE);
    private static final String[] REFUSALS = {"`BAD` (-1)", "`NOT` (-2)", "`FULL` (-3)", "`STATE` (-5)", "| -11 |", "| -12 |", "| -13 |", "| -14 |",
        "`VOID` (-2000000000)", "`Long.MIN_VALUE`", ".ci/run"};

    public static void main(String[] args) throws IOException {
        String text = Files.readString(Path.of("README.md"));
        Matcher line = LINE.matcher(text);
        Run r = Run.begin();
        int lines = 0;
        for (; line.find(); lines++) r.due(line.group(1) + "(" + asNumbers(line.group(2)) + ")", Run.number(line.group(3)));
        Due.due("every line of the example is asked", lines, text.split("\nforge\\.", -1).length - 1);
        Due.holds("there is an example", lines > 20);
        for (java.lang.reflect.Method m : ColdShod.class.getDeclaredMethods()) {
            boolean open = java.lang.reflect.Modifier.isPublic(m.getModifiers());
            if (open) Due.holds("README.md names " + m.getName(), text.contains("`" + m.getName() + "`"));
        }
        for (String refusal : REFUSALS) Due.holds("README.md names " + refusal, text.contains(refusal));
        Due.end();
    }

    /** A letter stands for its number. */
    private static String asNumbers(String with) {
        return with.startsWith("'") ? "" + (int) with.charAt(1) : with;
    }
}
