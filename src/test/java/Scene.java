import java.util.ArrayList;
import java.util.List;

/** A forge in some state, made anew by the same calls, and all that can be seen of it. */
final class Scene {
    private final String name;
    private final List<String> made;
    private final List<List<String>> looks = looks();
    private final List<List<Long>> seen = new ArrayList<>();

    private Scene(String name, List<String> made) {
        this.name = name;
        this.made = made;
        Run r = Run.begin();
        for (String call : made) {
            long got = r.ask(call);
            Due.holds(name + ": " + call + " is not refused", call.startsWith("act") || got >= 0);
        }
        for (List<String> look : looks) seen.add(answers(make(), look));
    }

    /** Nothing is there yet. */
    static Scene bare() {
        return new Scene("bare", List.of());
    }

    /** Some of each; SHELF 0, 4 bytes, 1 shorts, 2 a SMITH, 3 nothing, 5 longs; changes to undo and to do again. */
    static Scene furnished() {
        List<String> calls = new ArrayList<>();
        add(calls, "head(1)", "head(4)", "head(2)", "mend(0, 1, 9)", "mend(2, 1, 0)", "idea(0, 2)", "idea(1, 5)", "idea(3, 0)",
            "idea(2, 4)");
        add(calls, "road(1, 5)", "road(12, 9)", "road(2, 7)", "road(23, 4)", "mend(1, 10, 7)", "mend(2, 11, 2)",
            "mend(3, 10, 9)");
        add(calls, "mend(0, 5, 4)", "mend(0, 4, 30)", "mend(1, 4, 99)", "mend(2, 6, 1)", "mend(2, 7, 1)");
        text(calls, "1+w/40+k");
        add(calls, "law()", "deal()", "stroke(0, 1)", "stroke(1, 3)", "goes(0, 0)", "image()", "goes(0, 2)", "stroke(0, 0)",
            "mend(3, 4, 44)");
        add(calls, "mend(3, 4, 55)", "mend(3, 5, 6)", "undo()", "undo()");
        text(calls, "m+k");
        for (int kind = 0; kind < 8; kind++) calls.add("body(" + kind + ")");
        row(calls, 0, 0, 0, 2, 0, 1, 3, 0, -1, 7);
        row(calls, 1, 1, 300, -300, 5);
        calls.add("keep(2, 5)");
        row(calls, 4, 0, 35, 40, 68);
        row(calls, 5, 3, 1L << 40, -1, 77);
        add(calls, "act(7, 3, 5)");
        return new Scene("furnished", calls);
    }

    /** As many of each as there can be. */
    static Scene filled() {
        List<String> calls = new ArrayList<>();
        for (int i = 0; i < 6; i++) calls.add("head(" + i + ")");
        for (int i = 0; i < 8; i++) calls.add("idea(" + i % 4 + ", " + i % 6 + ")");
        for (int i = 0; i < 12; i++) calls.add("road(" + (10 * (i % 8) + (i + 3) % 8) + ", " + (1 + i % 9) + ")");
        for (int i = 0; i < 43; i++) calls.add("mend(" + i % 6 + ", " + (4 + i % 2) + ", " + (1 + i / 6) + ")");
        calls.add("deal()");
        for (int i = 0; i < 120; i++) calls.add("feed(" + (i % 2 == 0 ? '3' + 0 : '-' + 0) + ")");
        for (int i = 0; i < 50; i++) calls.add("body(" + (7 - i % 8) + ")");
        for (int shelf = 0; shelf < 6; shelf++) row(calls, shelf, shelf == 5 ? 0 : shelf, shelf, 7, 1);
        add(calls, "row(5, 0, 60)", "put(5, 59, 9)", "put(5, 0, 3)", "act(40, 3, -9)", "image()");
        return new Scene("filled", calls);
    }

    private static void add(List<String> calls, String... more) {
        calls.addAll(List.of(more));
    }

    private static void text(List<String> calls, String text) {
        for (int i = 0; i < text.length(); i++) calls.add("feed(" + (int) text.charAt(i) + ")");
    }

    private static void row(List<String> calls, int shelf, int sort, long... elements) {
        calls.add("row(" + shelf + ", " + sort + ", " + elements.length + ")");
        for (int i = 0; i < elements.length; i++) calls.add("put(" + shelf + ", " + i + ", " + elements[i] + ")");
    }

    /** The calls by which it is made. */
    List<String> calls() {
        return made;
    }

    Run make() {
        Run r = Run.begin();
        for (String call : made) r.ask(call);
        return r;
    }

    private static List<Long> answers(Run r, List<String> look) {
        List<Long> told = new ArrayList<>();
        for (String call : look) told.add(r.ask(call));
        return told;
    }

    /** Behind this call with its due answer all is as it would be without it. */
    void refuses(String call, long want) {
        for (int i = 0; i < looks.size(); i++) {
            Run r = make().due(call, want);
            check(call, i, r);
        }
    }

    /** Rows of such calls: "head(6) BAD  head(-1) BAD". */
    void refuses(String rows) {
        for (String row : rows.trim().split("(?<=\\s[-\\w]{1,12})\\s\\s+")) {
            int end = row.lastIndexOf(')');
            refuses(row.substring(0, end + 1).trim(), Run.number(row.substring(end + 1).trim()));
        }
    }

    /** Whatever this call answers, all is as it would be without it. */
    void changesNothing(String call) {
        for (int i = 0; i < looks.size(); i++) {
            Run r = make();
            r.ask(call);
            check(call, i, r);
        }
    }

    private void check(String call, int i, Run r) {
        List<Long> now = answers(r, looks.get(i));
        for (int j = 0; j < now.size(); j++) {
            Due.due(Doc.latest() + " " + name + ": behind " + call + " " + looks.get(i).get(j), now.get(j), seen.get(i).get(j));
        }
    }

    /** Each look is short enough for one object; what alters what it looks at stands in a look of its own. */
    private static List<List<String>> looks() {
        List<List<String>> all = new ArrayList<>();
        List<String> numbers = numbers();
        all.add(numbers);
        List<String> traced = new ArrayList<>();
        for (int i = 0; i < 25; i++) traced.add("trace(" + i + ")");
        for (int shelf = 0; shelf < 6; shelf++) {
            for (int k = 0; k < 8; k++) traced.add("taken(" + shelf + ", " + k + ")");
            for (int i : new int[] {0, 1, 2, 3, 4, 5, 6, 7, 8, 59}) traced.add("element(" + shelf + ", " + i + ")");
        }
        for (int smith = 0; smith < 50; smith++) traced.add("act(" + smith + ", 3, 4)");
        all.add(traced);
        List<String> sizes = new ArrayList<>();
        for (int shelf = 0; shelf < 6; shelf++) {
            for (int i : new int[] {0, 1, 3, 8, 59, 60}) sizes.add("put(" + shelf + ", " + i + ", 258)");
            for (int i : new int[] {0, 1, 3, 8, 59, 60}) sizes.add("element(" + shelf + ", " + i + ")");
        }
        all.add(sizes);
        for (String deeds : new String[] {"undo()", "redo()", "back()", "law()"}) {
            List<String> look = new ArrayList<>();
            int times = deeds.equals("undo()") ? 41 : deeds.equals("redo()") ? 5 : 2;
            for (int i = 0; i < times; i++) look.add(deeds);
            look.addAll(numbers);
            all.add(look);
        }
        List<String> worn = new ArrayList<>();
        for (int idea = 0; idea < 8; idea++) for (int road = 0; road < 12; road++) worn.add("wears(" + idea + ", " + road + ")");
        for (int head = 0; head < 6; head++) worn.add("asks(" + head + ")");
        all.add(worn);
        return all;
    }

    private static List<String> numbers() {
        List<String> calls = new ArrayList<>();
        for (int what = 0; what <= 6; what++) calls.add("count(" + what + ")");
        for (int what = 0; what <= 4; what++) calls.add("led(" + what + ")");
        for (int head = 0; head < 6; head++) for (int what = 0; what <= 1; what++) calls.add("of(" + head + ", " + what + ")");
        for (int idea = 0; idea < 8; idea++) for (int what = 2; what <= 8; what++) calls.add("of(" + idea + ", " + what + ")");
        for (int road = 0; road < 12; road++) for (int what = 9; what <= 13; what++) calls.add("of(" + road + ", " + what + ")");
        for (int idea = 0; idea < 3; idea++) for (int road = 0; road < 3; road++) calls.add("wears(" + idea + ", " + road + ")");
        return calls;
    }
}
