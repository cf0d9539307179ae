import java.lang.reflect.Method;
import java.util.HashMap;
import java.util.Map;
import java.util.regex.Matcher;
import java.util.regex.Pattern;

/** A run of calls on a new object, told as texts: "head(0) 0  head(6) BAD". */
final class Run {
    private static final int MOST_CALLS = 512;
    private static final Pattern ROW = Pattern.compile("(\\w+\\([^()]*\\))\\s+([-\\w]+)");
    private static final Pattern CALL = Pattern.compile("(\\w+)\\(([^()]*)\\)");
    private static final Map<String, Method> FACE = new HashMap<>();
    private static final Map<String, Object[]> WITH = new HashMap<>();

    static {
        for (Method m : ColdShod.class.getMethods()) {
            if (m.getDeclaringClass() == ColdShod.class) FACE.put(m.getName(), m);
        }
    }

    private final ColdShod x = new ColdShod();
    private int calls;

    static Run begin() {
        return new Run();
    }

    /** Calls, each with the answer that is due. */
    Run due(String rows) {
        Matcher row = ROW.matcher(rows);
        if (!row.replaceAll("").isBlank()) throw new IllegalArgumentException(row.replaceAll("").trim());
        row.reset();
        while (row.find()) due(row.group(1), number(row.group(2)));
        return this;
    }

    Run due(String call, long want) {
        Due.due(Doc.latest() + " " + call, ask(call), want);
        return this;
    }

    /** Calls whose answers are not looked at, but for that none is refused. */
    Run does(String some) {
        Matcher call = CALL.matcher(some);
        if (!call.replaceAll("").isBlank()) throw new IllegalArgumentException(call.replaceAll("").trim());
        call.reset();
        while (call.find()) {
            long got = ask(call.group());
            boolean mends = call.group(1).equals("mend");
            Due.holds(Doc.latest() + " " + call.group() + " is not refused", mends ? got != ColdShod.VOID : got >= 0);
        }
        return this;
    }

    /** A text that becomes THE LAW. */
    Run law(String text) {
        return tells(text).due("law()", 1);
    }

    Run tells(String text) {
        for (int i = 0; i < text.length(); i++) ask("feed(" + (int) text.charAt(i) + ")");
        return this;
    }

    /** A SHELF holds a ROW of bytes. */
    Run bytes(int shelf, int... elements) {
        due("row(" + shelf + ", 0, " + elements.length + ")", 1);
        for (int i = 0; i < elements.length; i++) due("put(" + shelf + ", " + i + ", " + elements[i] + ")", 1);
        return this;
    }

    /** How many calls may still be made. */
    int left() {
        return MOST_CALLS - calls;
    }

    long ask(String call) {
        calls++;
        if (calls > MOST_CALLS) throw new IllegalStateException("a run of more than " + MOST_CALLS + " calls");
        try {
            return ((Number) method(call).invoke(x, with(call))).longValue();
        } catch (ReflectiveOperationException e) {
            throw new IllegalStateException(call, e);
        }
    }

    static Method method(String call) {
        return FACE.get(call.substring(0, call.indexOf('(')));
    }

    static Object[] with(String call) {
        Object[] known = WITH.get(call);
        if (known != null) return known;
        String inside = call.substring(call.indexOf('(') + 1, call.length() - 1).trim();
        String[] told = inside.isEmpty() ? new String[0] : inside.split("\\s*,\\s*");
        Class<?>[] types = method(call).getParameterTypes();
        Object[] args = new Object[told.length];
        for (int i = 0; i < told.length; i++) {
            if (types[i] == long.class) args[i] = number(told[i]);
            else args[i] = Math.toIntExact(number(told[i]));
        }
        WITH.put(call, args);
        return args;
    }

    static long number(String told) {
        switch (told) {
            case "BAD": return ColdShod.BAD;
            case "NOT": return ColdShod.NOT;
            case "FULL": return ColdShod.FULL;
            case "STATE": return ColdShod.STATE;
            case "VOID": return ColdShod.VOID;
            case "MIN": return Integer.MIN_VALUE;
            case "MAX": return Integer.MAX_VALUE;
            case "LMIN": return Long.MIN_VALUE;
            case "LMAX": return Long.MAX_VALUE;
            default: return Long.parseLong(told);
        }
    }
}
