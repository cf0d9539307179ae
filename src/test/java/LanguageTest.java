import java.io.IOException;
import java.lang.reflect.Constructor;
import java.lang.reflect.Field;
import java.lang.reflect.Method;
import java.lang.reflect.Modifier;
import java.nio.file.Files;
import java.nio.file.Path;
import java.util.ArrayList;
import java.util.Arrays;
import java.util.IdentityHashMap;
import java.util.List;
import java.util.Map;
import java.util.Set;
import java.util.TreeSet;
import java.util.regex.Matcher;
import java.util.regex.Pattern;

/** The face of the document, and what of ../shared/LANGUAGE.md can be seen from outside or in the text. */
public final class LanguageTest {
    private static final String[] FACE = {"int head(int)", "int idea(int,int)", "int road(int,int)", "int roads(int,int,int)",
        "int mend(int,int,int)", "int of(int,int)", "int feed(int)", "int law()", "int wears(int,int)",
        "int journey(int,int,int)", "int strokes(int,int,int)", "int way(int,int,int)", "int reach(int,int)",
        "int asks(int)", "int settled()", "int yokes(int)", "int judge(int,int)", "int edge(int,int,int)",
        "int byTurns(int,int,int)", "int drawn(int,int,int,int)", "int stroke(int,int)", "int goes(int,int)", "int deal()",
        "int led(int)", "int image()", "int back()", "int undo()", "int redo()", "int body(int)", "int act(int,int,int)",
        "int trace(int)", "int keep(int,int)", "int row(int,int,int)", "int put(int,int,long)", "long element(int,int)",
        "int shift(int,int,int,int,int)", "int taken(int,int)", "int count(int)"};

    public static void main(String[] args) throws Exception {
        face();
        faceOfDocument();
        names();
        text();
        room();
        Due.end();
    }

    private static void face() throws Exception {
        Due.holds("the class is public and final", Modifier.toString(ColdShod.class.getModifiers()).equals("public final"));
        Set<String> found = new TreeSet<>();
        for (Method m : ColdShod.class.getDeclaredMethods()) {
            if (Modifier.isPrivate(m.getModifiers())) continue;
            Due.holds(m + " is public", Modifier.isPublic(m.getModifiers()) && !Modifier.isStatic(m.getModifiers()));
            StringBuilder told = new StringBuilder(m.getReturnType() + " " + m.getName() + "(");
            for (Class<?> type : m.getParameterTypes()) told.append(told.charAt(told.length() - 1) == '(' ? "" : ",").append(type);
            found.add(told + ")");
        }
        Due.holds("the methods are those of the document: " + found, found.equals(new TreeSet<>(Arrays.asList(FACE))));
        List<String> constants = new ArrayList<>();
        for (Field f : ColdShod.class.getDeclaredFields()) {
            if (!Modifier.isPrivate(f.getModifiers())) constants.add(Modifier.toString(f.getModifiers()) + " " + f.getName() + f.getInt(null));
        }
        String all = "public static final ";
        Due.holds("the constants are those of the document: " + constants, constants.equals(List.of(all + "BAD-1",
            all + "NOT-2", all + "FULL-3", all + "STATE-5", all + "VOID-2000000000")));
        Constructor<?>[] made = ColdShod.class.getDeclaredConstructors();
        Due.holds("one public constructor", made.length == 1 && Modifier.isPublic(made[0].getModifiers())
            && made[0].getParameterCount() == 0);
    }

    /** The face above is the one that the document tells, word for word. */
    private static void faceOfDocument() throws IOException {
        Path document = Path.of("../shared/DOC.md");
        if (!Files.exists(document)) return;
        Set<String> told = new TreeSet<>();
        Matcher method = Pattern.compile("public (int|long) (\\w+)\\(([^)]*)\\);").matcher(Files.readString(document));
        while (method.find()) {
            told.add(method.group(1) + " " + method.group(2) + "(" + method.group(3).replaceAll(" \\w+(,?) ?", "$1") + ")");
        }
        Due.holds("the document's face: " + told, told.equals(new TreeSet<>(Arrays.asList(FACE))));
    }

    private static void names() {
        Set<String> open = new TreeSet<>();
        for (String one : FACE) open.add(one.substring(one.indexOf(' ') + 1, one.indexOf('(')));
        List<Class<?>> classes = new ArrayList<>(List.of(ColdShod.class.getDeclaredClasses()));
        Due.holds("some twelve classes", classes.size() <= 12);
        classes.add(ColdShod.class);
        for (Class<?> one : classes) {
            if (one != ColdShod.class) Due.holds(one + " is static", Modifier.isStatic(one.getModifiers()));
            int fields = 0;
            for (Field f : one.getDeclaredFields()) {
                if (!Modifier.isStatic(f.getModifiers())) fields++;
                else Due.holds(f + " is final", Modifier.isFinal(f.getModifiers()));
            }
            Due.holds(one + " has some twenty fields", fields <= 20);
            for (Method m : one.getDeclaredMethods()) {
                boolean ofTheFace = one == ColdShod.class && Modifier.isPublic(m.getModifiers());
                Due.holds(m + " bears its own name", ofTheFace || !open.contains(m.getName()));
                Due.holds(m + " takes seven parameters at most", m.getParameterCount() <= 7);
                Due.holds(m + " is no lambda", !m.isSynthetic());
            }
        }
    }

    private static void text() throws IOException {
        String source = Files.readString(Path.of("src/main/java/ColdShod.java"));
        String bare = source.replaceAll("(?s)/\\*.*?\\*/", "").replaceAll("//[^\n]*", "").replaceAll("'[^']'", "' '");
        String[] banned = {"throw", "throws", "try", "catch", "synchronized", "assert", "package", "while", "Object", "hashCode",
            "toString", "static\\s*\\{", "->", "::", "Exact", "double", "float", "System\\.(?!arraycopy)", "String"};
        for (String word : banned) {
            String edge = Character.isLetter(word.charAt(0)) ? "\\b" : "";
            String pattern = word.equals("Exact") ? "Exact\\b" : edge + word;
            if (word.matches("[a-zA-Z]+") && !word.equals("Exact")) pattern += "\\b";
            Due.holds("no " + word, !Pattern.compile(pattern).matcher(bare).find());
        }
        Matcher imports = Pattern.compile("import ([^;]+);").matcher(bare);
        while (imports.find()) Due.holds("import " + imports.group(1), imports.group(1).equals("java.util.Arrays"));
        for (int i = 0; i < source.length(); i++) {
            if (source.charAt(i) > 126) Due.holds("a sign above 126 at " + i, false);
        }
        methodsAreShort(source);
    }

    private static void methodsAreShort(String source) {
        String[] lines = source.split("\n");
        int begun = -1;
        String indent = "";
        for (int i = 0; i < lines.length; i++) {
            Matcher opens = Pattern.compile("^(\\s{4,8})[\\w\\[\\] ]+\\([^;]*\\) \\{$").matcher(lines[i]);
            if (begun < 0 && opens.find()) {
                begun = i;
                indent = opens.group(1);
            } else if (begun >= 0 && lines[i].equals(indent + "}")) {
                Due.holds("short: " + lines[begun].trim(), i - begun < 60);
                boolean constructs = lines[begun].trim().matches("(public )?[A-Z]\\w*\\(\\) \\{");
                boolean makes = String.join(" ", Arrays.copyOfRange(lines, begun, i)).matches(".*\\bnew\\b.*");
                Due.holds("makes no object: " + lines[begun].trim(), constructs || !makes);
                begun = -1;
            }
        }
    }

    /** What an object holds from the first is all it ever holds: no call makes any object. */
    private static void room() throws Exception {
        ColdShod x = new ColdShod();
        int[] before = roomOf(x);
        Due.holds("few objects: " + before[0], before[0] <= 120);
        Due.holds("few elements: " + before[1], before[1] <= 4000);
        for (int i = 0; i < 6; i++) x.head(i % 6);
        for (int i = 0; i < 8; i++) x.idea(i % 4, i % 6);
        for (int i = 0; i < 12; i++) x.road(10 * (i % 8) + (i + 1) % 8, 9);
        for (int i = 0; i < 60; i++) x.mend(i % 8, 4, i);
        for (int i = 0; i < 50; i++) x.body(i % 8);
        for (int i = 0; i < 6; i++) x.row(i, i % 5, 60);
        Due.lawOf(x, "w<50?2;w*m+f;k");
        x.act(7, 3, 1);
        x.image();
        x.strokes(0, 0, -1);
        x.way(0, 7, -1);
        x.byTurns(0, 5, 0);
        x.drawn(1, 3040, 0, 0);
        x.deal();
        int[] behind = roomOf(x);
        Due.due("objects", behind[0], before[0]);
        Due.due("elements", behind[1], before[1]);
    }

    private static int[] roomOf(Object root) throws IllegalAccessException {
        Map<Object, Boolean> seen = new IdentityHashMap<>();
        int[] told = new int[2];
        measure(root, seen, told);
        return told;
    }

    private static void measure(Object one, Map<Object, Boolean> seen, int[] told) throws IllegalAccessException {
        if (one == null || seen.put(one, true) != null) return;
        told[0]++;
        if (one.getClass().isArray()) {
            told[1] += java.lang.reflect.Array.getLength(one);
            if (one instanceof Object[]) for (Object part : (Object[]) one) measure(part, seen, told);
            return;
        }
        for (Field f : one.getClass().getDeclaredFields()) {
            if (Modifier.isStatic(f.getModifiers())) continue;
            told[1]++;
            f.setAccessible(true);
            if (!f.getType().isPrimitive()) measure(f.get(one), seen, told);
        }
    }
}
