import java.util.ArrayList;
import java.util.List;
import java.util.Random;

/** All promises: random runs of calls, the class beside the plain model. */
public final class ModelTest {
    private static final int RUNS = 1600, CALLS = 512, LOOKS = 90, KINDS = 48, KEPT = KINDS + 4, STANDING = 8;
    /** The kinds of steps that call() knows. */
    private static final int[] ALL = new int[KINDS];
    private static final int[] EDGES = {Integer.MIN_VALUE, Integer.MIN_VALUE + 1, -101, -100, -11, -10, -3, -2, -1, 0, 1, 2,
        5, 6, 7, 8, 9, 10, 12, 13, 14, 15, 40, 49, 50, 55, 60, 61, 99, 100, 101, 140, 255, 256, 3040, 3101,
        Integer.MAX_VALUE - 1, Integer.MAX_VALUE};
    private static final String[] LAWS = {"1", "0", "9", "w<50?2;1", "w%3", "h", "f", "s/2+k", "m>1?1;3", "w>90?9;w/20",
        "1+k+f/3-m/2", "h>0?0;2", "f<2?1;f<4?2;4", "!w+k*2", "(w+h)%5", "w%2?3;0", "s>w/11?5;m=0|k=2?4;1"};

    private final Random random;
    private final ColdShod x = new ColdShod();
    private final PlainModel model = new PlainModel();
    private final List<String> calls = new ArrayList<>();
    private final boolean[] made = new boolean[KINDS];
    private long got;
    private long want;

    private ModelTest(long seed) {
        random = new Random(seed);
    }

    public static void main(String[] args) {
        for (int which = 0; which < KINDS; which++) ALL[which] = which;
        int wrongRuns = 0;
        for (int run = 0; run < RUNS && wrongRuns < 5; run++) {
            if (!new ModelTest(run).isSame(run)) wrongRuns++;
        }
        Due.due("runs unlike the model", wrongRuns, 0);
        laws();
        Due.end();
    }

    /** A run of CALLS calls in all: of all kinds, or for a while of some kinds alone; at the end all that came of it is looked at. */
    private boolean isSame(int run) {
        if (run % 3 != 0) furnish();
        int[] some = ALL;
        for (int step = 0; calls.size() < CALLS - LOOKS; step++) {
            if (run % 2 == 1 && step % 40 == 0) some = someKinds();
            boolean wild = random.nextInt(run % 5 == 0 ? 8 : 40) == 0;
            if (!isSame(run, some[random.nextInt(some.length)], wild)) return false;
        }
        for (int which : ALL) {
            if (!made[which] && !isSame(run, which, false)) return false;
        }
        return looksSame(run);
    }

    private boolean isSame(int run, int which, boolean wild) {
        made[which] = true;
        call(which, wild);
        return tellSame(run);
    }

    private boolean tellSame(int run) {
        Due.due("run " + run + ": " + calls.get(calls.size() - 1), got, want);
        if (got != want) System.out.println(calls);
        return got == want;
    }

    private int[] someKinds() {
        int[] some = new int[3 + random.nextInt(8)];
        for (int i = 0; i < some.length; i++) some[i] = random.nextInt(KINDS);
        return some;
    }

    private boolean looksSame(int run) {
        for (int i = 0; calls.size() < CALLS; i++) {
            look(i);
            if (!tellSame(run)) return false;
        }
        Due.due("calls of run " + run, calls.size(), CALLS);
        return true;
    }

    /** What was led and counted, then the numbers of IDEAS, then SHELVES. */
    private void look(int i) {
        int a = i - 12, b = i - 68;
        if (i < 5) {
            note("led", i);
            answer(x.led(i), model.led(i));
        } else if (i < 12) {
            note("count", i - 5);
            answer(x.count(i - 5), model.count(i - 5));
        } else if (i < 68) {
            note("of", a / 7, 2 + a % 7);
            answer(x.of(a / 7, 2 + a % 7), model.of(a / 7, 2 + a % 7));
        } else {
            note("element", b % 6, b / 6);
            answer(x.element(b % 6, b / 6), model.element(b % 6, b / 6));
        }
    }

    /** So that there is something to work on from the first. */
    private void furnish() {
        for (int i = random.nextInt(7); i > 0; i--) call(0, false);
        for (int i = 1 + random.nextInt(8); i > 0; i--) call(1, false);
        for (int i = 1 + random.nextInt(12); i > 0; i--) call(2, false);
        for (int i = random.nextInt(4); i > 0; i--) call(29, false);
        for (int i = 0; i < 2; i++) {
            int n = random.nextInt(12);
            note("row", i, 0, n);
            x.row(i, 0, n);
            model.row(i, 0, n);
            for (int j = 0; j < n; j++) {
                int road = random.nextInt(12);
                note("put", i, j, road);
                x.put(i, j, road);
                model.put(i, j, road);
            }
        }
    }

    private void note(String name, long... with) {
        StringBuilder text = new StringBuilder(name).append('(');
        for (int i = 0; i < with.length; i++) text.append(i > 0 ? ", " : "").append(with[i]);
        calls.add(text.append(")").toString());
    }

    /** Mostly within low .. high, and now and then just outside. */
    private int in(int low, int high, boolean wild) {
        if (wild && random.nextInt(2) == 0) return random.nextInt(3) == 0 ? random.nextInt() : EDGES[random.nextInt(EDGES.length)];
        return low + random.nextInt(high - low + 1);
    }

    private int idea(boolean wild) {
        return in(0, Math.max(0, model.ideas.size() - 1), wild);
    }

    private int anyRoad(boolean wild) {
        return in(0, Math.max(0, model.roads.size() - 1), wild);
    }

    private int places(boolean wild) {
        return wild ? in(0, 99, true) : 10 * random.nextInt(8) + random.nextInt(8);
    }

    private int shelves(boolean wild) {
        if (wild) return in(0, 66, true);
        return random.nextInt(3) > 0 ? 10 * random.nextInt(2) + random.nextInt(2) : 10 * random.nextInt(6) + random.nextInt(6);
    }

    private int shelf(boolean wild) {
        return random.nextInt(2) == 0 ? in(0, 1, wild) : in(0, 5, wild);
    }

    private void answer(long mine, long theirs) {
        got = mine;
        want = theirs;
    }

    private void call(int which, boolean wild) {
        if (which < 16) callTold(which, wild);
        else if (which < 29) callThought(which, wild);
        else callDone(which, wild);
    }

    private void callTold(int which, boolean wild) {
        int a, b, c;
        switch (which) {
            case 0: a = in(0, 5, wild); note("head", a); answer(x.head(a), model.head(a)); break;
            case 1: a = in(0, 3, wild); b = in(0, 5, wild); note("idea", a, b); answer(x.idea(a, b), model.idea(a, b)); break;
            case 2: a = places(wild); b = in(1, 9, wild); note("road", a, b); answer(x.road(a, b), model.road(a, b)); break;
            case 3:
                a = shelf(wild); b = in(0, 9, wild); c = in(1, 12, wild);
                note("roads", a, b, c); answer(x.roads(a, b, c), model.roads(a, b, c)); break;
            case 4: case 5: case 6: case 7: case 8: case 9: mendOne(wild); break;
            case 10: case 11: a = in(0, 7, wild); b = in(0, 14, wild); note("of", a, b); answer(x.of(a, b), model.of(a, b)); break;
            case 12: a = wild ? in(0, 255, true) : "0123456789mwhfsk+-*/%<=>&|!();?".charAt(random.nextInt(31));
                note("feed", a); answer(x.feed(a), model.feed(a)); break;
            case 13: note("law"); answer(x.law(), model.law()); break;
            case 14: a = idea(wild); b = anyRoad(wild); note("wears", a, b); answer(x.wears(a, b), model.wears(a, b)); break;
            default: a = in(0, 6, wild); note("count", a); answer(x.count(a), model.count(a)); break;
        }
    }

    private void mendOne(boolean wild) {
        int[][] within = {{0, 5}, {0, 12}, {0, 3}, {0, 5}, {0, 99}, {0, 9}, {0, 1}, {0, 9}, {-1, 5}, {1, 9}, {0, 9}, {0, 2}};
        int what = in(0, 11, wild);
        int[] bounds = what >= 0 && what < 12 ? within[what] : new int[] {0, 9};
        int number = in(0, 6, wild), v = in(bounds[0], bounds[1], wild);
        // low STEEPS and great WORN make the longer and the lamer ways
        if (what == 10 && random.nextBoolean()) v = random.nextInt(3);
        if (what == 4 && random.nextInt(3) == 0) v = 85 + random.nextInt(15);
        note("mend", number, what, v);
        answer(x.mend(number, what, v), model.mend(number, what, v));
    }

    private void callThought(int which, boolean wild) {
        int a, b, c, d;
        switch (which) {
            case 16: case 17: a = shelf(wild); b = idea(wild); c = in(0, 4, wild);
                note("journey", a, b, c); answer(x.journey(a, b, c), model.journey(a, b, c)); break;
            case 18: case 19: a = shelf(wild); b = idea(wild); c = in(-1, 4, wild);
                note("strokes", a, b, c); answer(x.strokes(a, b, c), model.strokes(a, b, c)); break;
            case 20: case 21: a = idea(wild); b = places(wild); c = in(-2, 4, wild);
                note("way", a, b, c); answer(x.way(a, b, c), model.way(a, b, c)); break;
            case 22: a = idea(wild); b = in(0, 7, wild); note("reach", a, b); answer(x.reach(a, b), model.reach(a, b)); break;
            case 23: a = in(0, 5, wild); note("asks", a); answer(x.asks(a), model.asks(a)); break;
            case 24: note("settled"); answer(x.settled(), model.settled()); break;
            case 25: a = in(0, 2, wild); note("yokes", a); answer(x.yokes(a), model.yokes(a)); break;
            case 26: edgeOne(wild); break;
            case 27: a = idea(wild); b = in(1, 5, wild); c = in(0, 1, wild);
                note("byTurns", a, b, c); answer(x.byTurns(a, b, c), model.byTurns(a, b, c)); break;
            default: a = random.nextInt(); b = wild ? in(0, 3040, true) : 100 * in(1, 30, false) + in(1, 40, false);
                c = idea(wild); d = in(0, 1, wild);
                note("drawn", a, b, c, d); answer(x.drawn(a, b, c, d), model.drawn(a, b, c, d)); break;
        }
    }

    /** A SHELF tells WORN as it will be, or nearly so, ahead of what is asked of it. */
    private void edgeOne(boolean wild) {
        int ss = shelves(wild), a = idea(wild), what = in(0, 1, wild);
        if (!wild && model.ideas.size() > 0 && ss / 10 != ss % 10 && model.shelves[ss / 10] instanceof byte[]) tellWorn(ss, a);
        if (random.nextBoolean()) {
            note("judge", ss, a);
            answer(x.judge(ss, a), model.judge(ss, a));
        } else {
            note("edge", ss, a, what);
            answer(x.edge(ss, a, what), model.edge(ss, a, what));
        }
    }

    private void tellWorn(int ss, int idea) {
        byte[] journey = (byte[]) model.shelves[ss / 10];
        int n = random.nextInt(journey.length + 2);
        if (calls.size() + n > CALLS - KEPT) return;
        x.row(ss % 10, 0, n);
        model.row(ss % 10, 0, n);
        note("row", ss % 10, 0, n);
        for (int i = 0; i < n; i++) {
            Object held = model.shelves[5];
            model.shelves[5] = java.util.Arrays.copyOf((byte[]) model.shelves[ss / 10], i);
            int worn = model.journey(5, idea, 2) + (random.nextInt(30) == 0 ? 1 : 0);
            model.shelves[5] = held;
            x.put(ss % 10, i, worn);
            model.put(ss % 10, i, worn);
            note("put", ss % 10, i, worn);
        }
    }

    private void callDone(int which, boolean wild) {
        int a, b;
        switch (which) {
            case 29: text(); note("law"); answer(x.law(), model.law()); break;
            case 30: case 31: a = idea(wild); b = in(0, 3, wild); note("stroke", a, b); answer(x.stroke(a, b), model.stroke(a, b)); break;
            case 32: case 33: a = idea(wild); b = anyRoad(wild); note("goes", a, b); answer(x.goes(a, b), model.goes(a, b)); break;
            case 34: note("deal"); answer(x.deal(), model.deal()); break;
            case 35: a = in(0, 4, wild); note("led", a); answer(x.led(a), model.led(a)); break;
            case 36: note("image"); answer(x.image(), model.image()); break;
            case 37: note("back"); answer(x.back(), model.back()); break;
            case 38: note("undo"); answer(x.undo(), model.undo()); break;
            case 39: note("redo"); answer(x.redo(), model.redo()); break;
            default: callShelves(which, wild); break;
        }
    }

    private void callShelves(int which, boolean wild) {
        int a, b, c, d, e;
        switch (which) {
            case 40: a = in(0, 7, wild); note("body", a); answer(x.body(a), model.body(a)); break;
            case 41: a = in(0, Math.max(0, model.bodies.size() - 1), wild); b = in(0, 3, wild); c = random.nextInt();
                note("act", a, b, c); answer(x.act(a, b, c), model.act(a, b, c)); break;
            case 42: a = in(0, 14, wild); note("trace", a); answer(x.trace(a), model.trace(a)); break;
            case 43: a = in(2, 5, wild); b = in(-1, Math.max(0, model.bodies.size()), wild);
                note("keep", a, b); answer(x.keep(a, b), model.keep(a, b)); break;
            case 44: a = in(wild ? 0 : 2, 5, wild); b = in(0, 4, wild); c = wild ? in(0, 60, true) : random.nextInt(10);
                note("row", a, b, c); answer(x.row(a, b, c), model.row(a, b, c)); break;
            case 45: a = shelf(wild); b = in(0, 9, wild);
                long v = random.nextInt(3) > 0 ? random.nextInt(12) : random.nextLong() >> random.nextInt(64);
                note("put", a, b, v); answer(x.put(a, b, v), model.put(a, b, v)); break;
            case 46: a = shelf(wild); b = in(0, 9, wild); c = shelf(wild); d = in(0, 9, wild); e = in(-1, 9, wild);
                note("shift", a, b, c, d, e); answer(x.shift(a, b, c, d, e), model.shift(a, b, c, d, e)); break;
            default: a = shelf(wild); b = in(0, 7, wild); note("taken", a, b); answer(x.taken(a, b), model.taken(a, b));
                if (got != want) break;
                note("element", a, b); answer(x.element(a, b), model.element(a, b)); break;
        }
    }

    private void text() {
        String text = random.nextInt(3) > 0 ? LAWS[random.nextInt(LAWS.length)] : RandomLaw.text(random);
        text = text.substring(0, Math.max(0, Math.min(text.length(), CALLS - KEPT - calls.size())));
        for (int i = 0; i < text.length(); i++) {
            note("feed", text.charAt(i));
            x.feed(text.charAt(i));
            model.feed(text.charAt(i));
        }
    }

    /** Laws alone, for their FAULTS and for what they give. */
    private static void laws() {
        Random random = new Random(77);
        ColdShod x = standing();
        int made = STANDING;
        for (int i = 0; i < 60000; i++) {
            String text = RandomLaw.text(random);
            int fault = PlainLaw.fault(text);
            if (made + text.length() + 2 > CALLS) {
                x = standing();
                made = STANDING;
            }
            made += text.length() + 2;
            Due.due("law of " + text, Due.lawOf(x, text), fault < 0 ? 1 : -100 - fault);
            if (fault >= 0) continue;
            int worth = PlainLaw.worth(text, 3, 20, 7, 4, 6, 2);
            Due.due("wears by " + text, x.wears(0, 0), Math.max(0, Math.min(9, worth)));
        }
    }

    /** Made by STANDING calls. */
    private static ColdShod standing() {
        ColdShod x = new ColdShod();
        x.head(1);
        x.idea(3, 5);
        x.road(1, 9);
        int[][] mends = {{4, 20}, {5, 7}, {8, 0}, {10, 6}, {11, 2}};
        for (int[] m : mends) x.mend(0, m[0], m[1]);
        return x;
    }
}
