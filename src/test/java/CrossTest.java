import java.lang.reflect.Method;
import java.util.ArrayList;
import java.util.List;

/** All promises: each call with every crossing of edges, the class beside the plain model, in forges bare, furnished and filled. */
public final class CrossTest {
    private static final int MOST_CALLS = 512;
    private static final int MIN = Integer.MIN_VALUE, MAX = Integer.MAX_VALUE;
    private static final int[] WIDE = {MIN, MIN + 1, -129, -101, -100, -14, -11, -10, -5, -3, -2, -1, 0, 1, 2, 3, 4, 5, 6, 7, 8, 9, 10,
        11, 12, 13, 14, 15, 24, 45, 49, 50, 54, 55, 56, 59, 60, 61, 67, 70, 76, 77, 99, 100, 101, 120, 140, 141, 255, 256, 3040, MAX - 1,
        MAX};
    private static final int[] NARROW = {MIN, -14, -3, -2, -1, 0, 1, 2, 3, 4, 5, 6, 7, 8, 9, 10, 11, 12, 13, 14, 20, 59, 60, 61, 99, 100, MAX};
    private static final int[] SEEDS = {MIN, -1, 0, 5, MAX};
    private static final int[] LIVES = {MIN, -101, -1, 0, 1, 40, 99, 100, 101, 102, 140, 141, 199, 200, 240, 241, 3000, 3001, 3040, 3041, 3100,
        3101, 3140, MAX};
    private static final int[] SMALL = {MIN, -1, 0, 1, 2, 3, 4, 5, 6, 7, 8, 9, MAX};
    private static final int[] SHELVES = {MIN, -1, 0, 1, 2, 3, 4, 5, 6, MAX};
    private static final int[] PLACES = {MIN, -1, 0, 1, 2, 3, 7, 8, 59, 60, 61, MAX};
    private static final long[] VALUES = {Long.MIN_VALUE, MIN, -32769, -129, -1, 0, 1, 128, 65535, 1L << 32, Long.MAX_VALUE};

    private final Scene scene;
    private ColdShod x;
    private PlainModel model;
    private int calls;

    private CrossTest(Scene scene) {
        this.scene = scene;
    }

    public static void main(String[] args) throws Exception {
        for (Scene scene : new Scene[] {Scene.bare(), Scene.furnished(), Scene.filled()}) new CrossTest(scene).all();
        Due.end();
    }

    private void all() throws Exception {
        for (Method m : ColdShod.class.getDeclaredMethods()) {
            if (!java.lang.reflect.Modifier.isPublic(m.getModifiers())) continue;
            Method plain = PlainModel.class.getDeclaredMethod(m.getName(), m.getParameterTypes());
            begin();
            cross(m, plain, new Object[m.getParameterCount()], 0);
            end(m.getName());
        }
    }

    /** New objects in the scene's state. */
    private void begin() throws Exception {
        x = new ColdShod();
        model = new PlainModel();
        calls = 0;
        for (String call : scene.calls()) {
            Object[] with = Run.with(call);
            Method m = Run.method(call);
            same(m, PlainModel.class.getDeclaredMethod(m.getName(), m.getParameterTypes()), with);
        }
    }

    private void same(Method m, Method plain, Object[] with) throws Exception {
        long got = ((Number) m.invoke(x, with)).longValue(), want = ((Number) plain.invoke(model, with)).longValue();
        calls++;
        if (got == want) {
            Due.due(m.getName(), got, want);
        } else {
            Due.due(m.getName() + List.of(with), got, want);
        }
    }

    private void cross(Method m, Method plain, Object[] with, int at) throws Exception {
        if (at == with.length) {
            if (calls >= MOST_CALLS - 100) {
                end(m.getName());
                begin();
            }
            same(m, plain, with);
            return;
        }
        if (m.getParameterTypes()[at] == long.class) {
            for (long v : VALUES) {
                with[at] = v;
                cross(m, plain, with, at + 1);
            }
            return;
        }
        for (int v : edges(m.getName(), at, with.length)) {
            with[at] = v;
            cross(m, plain, with, at + 1);
        }
    }

    private static int[] edges(String name, int at, int of) {
        if (name.equals("drawn")) return at == 0 ? SEEDS : at == 1 ? LIVES : SMALL;
        if (name.equals("shift")) return at == 0 || at == 2 ? SHELVES : PLACES;
        return of <= 2 ? WIDE : NARROW;
    }

    /** What the calls have changed is the same in both. */
    private void end(String name) throws Exception {
        List<String> looks = new ArrayList<>();
        for (int what = 0; what <= 6; what++) looks.add("count(" + what + ")");
        for (int what = 0; what <= 4; what++) looks.add("led(" + what + ")");
        for (int idea = 0; idea < 8; idea++) for (int what = 2; what <= 8; what++) looks.add("of(" + idea + ", " + what + ")");
        for (int shelf = 0; shelf < 6; shelf++) for (int i = 0; i < 5; i++) looks.add("element(" + shelf + ", " + i + ")");
        for (String call : looks.subList(0, Math.min(looks.size(), MOST_CALLS - calls))) {
            Method m = Run.method(call);
            same(m, PlainModel.class.getDeclaredMethod(m.getName(), m.getParameterTypes()), Run.with(call));
        }
        Due.holds(name + " keeps within " + MOST_CALLS + " calls", calls <= MOST_CALLS);
    }
}
