import java.util.ArrayList;
import java.util.HashMap;
import java.util.List;
import java.util.Map;

/**
 * The document told once more, by other means than the class uses: all that is sought is tried out,
 * HEADS ask one by one, a law is worked out from its text, acts are Java's own, rows are Java's own
 * arrays with what Java throws. Slow and plain; random runs hold the class against it.
 */
final class PlainModel {
    private static final int VOID = -2000000000;

    static final class Head {
        int form, will = 6;
    }

    static final class Idea {
        int metal, shape, worn, heat, cast, heated, head = -1;

        Idea copy() {
            Idea c = new Idea();
            c.metal = metal;
            c.shape = shape;
            c.worn = worn;
            c.heat = heat;
            c.cast = cast;
            c.heated = heated;
            c.head = head;
            return c;
        }

        String tell() {
            return metal + "," + shape + "," + worn + "," + heat + "," + cast + "," + heated + "," + head;
        }
    }

    static final class Road {
        int from, to, miles, steep, kind;
    }

    final List<Head> heads = new ArrayList<>();
    final List<Idea> ideas = new ArrayList<>();
    final List<Road> roads = new ArrayList<>();
    final StringBuilder tape = new StringBuilder();
    String lawText = null;
    int[] led = new int[5];
    List<Idea> imageIdeas = null;
    int[] imageLed = null;
    final List<int[]> undos = new ArrayList<>();
    final List<int[]> redos = new ArrayList<>();
    final List<Smiths.Smith> bodies = new ArrayList<>();
    final List<Integer> ran = new ArrayList<>();
    final Object[] shelves = new Object[6];

    int head(int form) {
        if (form < 0 || form > 5) return -1;
        if (heads.size() == 6) return -3;
        Head h = new Head();
        h.form = form;
        heads.add(h);
        return heads.size() - 1;
    }

    int idea(int metal, int shape) {
        if (metal < 0 || metal > 3 || shape < 0 || shape > 5) return -1;
        if (ideas.size() == 8) return -3;
        Idea d = new Idea();
        d.metal = metal;
        d.shape = shape;
        ideas.add(d);
        return ideas.size() - 1;
    }

    private static int[] placesOf(int ft) {
        for (int a = 0; a < 8; a++) {
            for (int b = 0; b < 8; b++) if (a != b && ft == 10 * a + b) return new int[] {a, b};
        }
        return null;
    }

    int road(int ft, int miles) {
        if (placesOf(ft) == null || miles < 1 || miles > 9) return -1;
        if (roads.size() == 12) return -3;
        Road r = new Road();
        r.from = placesOf(ft)[0];
        r.to = placesOf(ft)[1];
        r.miles = miles;
        roads.add(r);
        return roads.size() - 1;
    }

    int roads(int shelf, int i, int n) {
        if (shelf < 0 || shelf > 5 || n < 1 || n > 12) return -1;
        if (shelves[shelf] == null) return 0;
        if (!(shelves[shelf] instanceof byte[])) return -12;
        byte[] row = (byte[]) shelves[shelf];
        for (int came = 0; came < n; came++) {
            long at = i + 3L * came;
            if (at < 0 || at + 3 > row.length) return came;
            int a = row[(int) at], b = row[(int) at + 1], m = row[(int) at + 2];
            if (a < 0 || b < 0 || b > 9 || road(10 * a + b, m) < 0) return came;
        }
        return n;
    }

    private int[] bounds(int what) {
        int[][] all = {{0, 5}, {0, 12}, {0, 3}, {0, 5}, {0, 99}, {0, 9}, {0, 1}, {0, 9}, {-1, heads.size() - 1},
            {1, 9}, {0, 9}, {0, 2}};
        return all[what];
    }

    private void set(int number, int what, int v) {
        if (what == 0) heads.get(number).form = v;
        if (what == 1) heads.get(number).will = v;
        if (what == 2) ideas.get(number).metal = v;
        if (what == 3) ideas.get(number).shape = v;
        if (what == 4) ideas.get(number).worn = v;
        if (what == 5) ideas.get(number).heat = v;
        if (what == 6) ideas.get(number).cast = v;
        if (what == 7) ideas.get(number).heated = v;
        if (what == 8) ideas.get(number).head = v;
        if (what == 9) roads.get(number).miles = v;
        if (what == 10) roads.get(number).steep = v;
        if (what == 11) roads.get(number).kind = v;
    }

    int mend(int number, int what, int v) {
        if (what < 0 || what > 11) return VOID;
        int was = of(number, what);
        if (was == VOID || v < bounds(what)[0] || v > bounds(what)[1]) return VOID;
        if (was == v) return was;
        set(number, what, v);
        undos.add(new int[] {number, what, was, v});
        if (undos.size() > 40) undos.remove(0);
        redos.clear();
        return was;
    }

    int of(int number, int what) {
        if (number < 0) return VOID;
        if (what == 0 || what == 1) {
            if (number >= heads.size()) return VOID;
            return what == 0 ? heads.get(number).form : heads.get(number).will;
        }
        if (what >= 2 && what <= 8 || what == 14) {
            if (number >= ideas.size()) return VOID;
            Idea d = ideas.get(number);
            if (what == 14) return 9 - d.worn / 11;
            return new int[] {d.metal, d.shape, d.worn, d.heat, d.cast, d.heated, d.head}[what - 2];
        }
        if (what >= 9 && what <= 13) {
            if (number >= roads.size()) return VOID;
            Road r = roads.get(number);
            return new int[] {r.miles, r.steep, r.kind, r.from, r.to}[what - 9];
        }
        return VOID;
    }

    int feed(int letter) {
        if (letter < 0 || letter > 255) return -1;
        if (tape.length() == 120) return -3;
        tape.append((char) letter);
        return tape.length();
    }

    int law() {
        String text = tape.toString();
        tape.setLength(0);
        int fault = PlainLaw.fault(text);
        if (fault >= 0) return -100 - fault;
        lawText = text;
        return 1;
    }

    private int wear(Idea d, Road r) {
        int f = d.head < 0 ? 9 : Math.abs(d.shape - heads.get(d.head).form);
        int v = 1 + r.kind + f / 3 - d.metal / 2;
        if (lawText != null) v = PlainLaw.worth(lawText, d.metal, d.worn, d.heat, f, r.steep, r.kind);
        return v < 0 ? 0 : v > 9 ? 9 : v;
    }

    int wears(int idea, int road) {
        if (idea < 0 || idea >= ideas.size() || road < 0 || road >= roads.size()) return -1;
        return wear(ideas.get(idea), roads.get(road));
    }

    /** MILES gone, -1 if it does not set out. */
    private int go(Idea d, Road r) {
        if (d.worn == 99 || r.steep > 9 - d.worn / 11) return -1;
        int gone = 0;
        while (gone < r.miles && d.worn < 99) {
            d.worn = Math.min(99, d.worn + wear(d, r));
            gone++;
        }
        if (gone == r.miles && d.heat > 0) d.heat--;
        return gone;
    }

    private static void strike(Idea d, int how) {
        if (how == 0 && !(d.cast == 1 && d.heated > 0)) {
            d.heat = Math.min(9, d.heat + 3);
            d.heated = Math.min(9, d.heated + 1);
        }
        if (how == 1 && d.heat >= 2 && d.shape < 5) {
            d.shape++;
            d.heat -= 2;
        }
        if (how == 2 && d.heat >= 2 && d.shape > 0) {
            d.shape--;
            d.heat -= 2;
        }
        if (how == 3 && d.heat >= 1) {
            d.worn = Math.max(0, d.worn - 10);
            d.heat--;
        }
    }

    private List<Integer> stages(int shelf) {
        List<Integer> list = new ArrayList<>();
        for (byte b : (byte[]) shelves[shelf]) {
            if (list.size() == 20 || b < 0 || b >= roads.size()) break;
            list.add((int) b);
        }
        return list;
    }

    private int refusal(int shelf) {
        if (shelves[shelf] == null) return -11;
        return shelves[shelf] instanceof byte[] ? 0 : -12;
    }

    /** MILES, ROADS, WORN, HEAT, the first not gone. */
    private int[] thought(Idea from, List<Integer> stages) {
        Idea d = from.copy();
        int miles = 0;
        for (int i = 0; i < stages.size(); i++) {
            int gone = go(d, roads.get(stages.get(i)));
            miles += Math.max(0, gone);
            if (gone < roads.get(stages.get(i)).miles) return new int[] {miles, i, d.worn, d.heat, i};
        }
        return new int[] {miles, stages.size(), d.worn, d.heat, -2};
    }

    int journey(int shelf, int idea, int what) {
        if (shelf < 0 || shelf > 5 || idea < 0 || idea >= ideas.size() || what < 0 || what > 4) return -1;
        if (refusal(shelf) != 0) return refusal(shelf);
        return thought(ideas.get(idea), stages(shelf))[what];
    }

    int strokes(int shelf, int idea, int k) {
        if (shelf < 0 || shelf > 5 || idea < 0 || idea >= ideas.size() || k < -1) return -1;
        if (refusal(shelf) != 0) return refusal(shelf);
        List<Integer> stages = stages(shelf);
        Map<String, Boolean> known = new HashMap<>();
        for (int length = 0, of = 1; length <= 4; length++, of *= 4) {
            for (int code = 0; code < of; code++) {
                Idea d = ideas.get(idea).copy();
                for (int i = length - 1; i >= 0; i--) strike(d, code >> 2 * i & 3);
                if (!known.computeIfAbsent(d.tell(), key -> thought(d, stages)[4] == -2)) continue;
                if (k == -1) return length;
                return k < length ? code >> 2 * (length - 1 - k) & 3 : -2;
            }
        }
        return -2;
    }

    int way(int idea, int ft, int k) {
        if (idea < 0 || idea >= ideas.size() || placesOf(ft) == null || k < -2) return -1;
        List<List<Integer>> all = new ArrayList<>();
        List<Integer> worn = new ArrayList<>();
        List<Integer> places = new ArrayList<>();
        places.add(placesOf(ft)[0]);
        allWays(ideas.get(idea), places, placesOf(ft)[1], new ArrayList<>(), all, worn);
        int best = -1;
        for (int i = 0; i < all.size(); i++) {
            if (best < 0 || isBefore(worn.get(i), all.get(i), worn.get(best), all.get(best))) best = i;
        }
        if (best < 0) return -2;
        if (k == -1) return worn.get(best);
        if (k == -2) return all.get(best).size();
        return k < all.get(best).size() ? all.get(best).get(k) : -2;
    }

    private static boolean isBefore(int wornA, List<Integer> a, int wornB, List<Integer> b) {
        if (wornA != wornB) return wornA < wornB;
        if (a.size() != b.size()) return a.size() < b.size();
        for (int i = 0; i < a.size(); i++) {
            if (!a.get(i).equals(b.get(i))) return a.get(i) < b.get(i);
        }
        return false;
    }

    /** All ways first, and then each of them gone from its beginning; the last ROADS first. */
    private void allWays(Idea d, List<Integer> places, int to, List<Integer> trail, List<List<Integer>> all,
            List<Integer> worn) {
        int place = places.get(places.size() - 1);
        if (place == to) {
            int[] told = thought(d, trail);
            if (told[4] != -2) return;
            all.add(new ArrayList<>(trail));
            worn.add(told[2]);
            return;
        }
        for (int r = roads.size() - 1; r >= 0; r--) {
            Road road = roads.get(r);
            int next = road.from == place ? road.to : road.to == place ? road.from : -1;
            if (next < 0 || places.contains(next)) continue;
            places.add(next);
            trail.add(r);
            allWays(d, places, to, trail, all, worn);
            trail.remove(trail.size() - 1);
            places.remove(places.size() - 1);
        }
    }

    int reach(int idea, int place) {
        if (idea < 0 || idea >= ideas.size() || place < 0 || place > 7) return -1;
        int bits = 1 << place;
        List<Integer> open = new ArrayList<>();
        open.add(place);
        while (!open.isEmpty()) {
            int at = open.remove(0);
            for (Road r : roads) {
                int next = r.from == at ? r.to : r.to == at ? r.from : -1;
                if (next < 0 || r.steep > of(idea, 14) || (bits & 1 << next) != 0) continue;
                bits |= 1 << next;
                open.add(next);
            }
        }
        return bits;
    }

    private boolean headRather(int h, int a, int b) {
        Idea one = ideas.get(a), two = ideas.get(b);
        long keyA = Math.abs(one.shape - heads.get(h).form) * 10000L + one.worn * 10L + a;
        long keyB = Math.abs(two.shape - heads.get(h).form) * 10000L + two.worn * 10L + b;
        return keyA < keyB;
    }

    private boolean ideaRather(int a, int b) {
        return heads.get(a).will * 10 - a > heads.get(b).will * 10 - b;
    }

    /** Deferred acceptance, HEADS asking, the last HEAD first. */
    private int[] asked() {
        int[] had = new int[heads.size()], hadBy = new int[ideas.size()];
        boolean[][] turnedDown = new boolean[heads.size()][ideas.size()];
        java.util.Arrays.fill(had, -2);
        java.util.Arrays.fill(hadBy, -1);
        boolean moved = true;
        while (moved) {
            moved = false;
            for (int h = heads.size() - 1; h >= 0; h--) {
                if (had[h] >= 0) continue;
                int best = -1;
                for (int d = 0; d < ideas.size(); d++) {
                    if (!turnedDown[h][d] && (best < 0 || headRather(h, d, best))) best = d;
                }
                if (best < 0) continue;
                moved = true;
                int rival = hadBy[best];
                if (rival >= 0 && ideaRather(rival, h)) {
                    turnedDown[h][best] = true;
                    continue;
                }
                if (rival >= 0) {
                    had[rival] = -2;
                    turnedDown[rival][best] = true;
                }
                had[h] = best;
                hadBy[best] = h;
            }
        }
        return had;
    }

    int asks(int head) {
        return head < 0 || head >= heads.size() ? -1 : asked()[head];
    }

    int settled() {
        for (int a = 0; a < ideas.size(); a++) {
            for (int b = 0; b < a; b++) {
                if (ideas.get(a).head >= 0 && ideas.get(a).head == ideas.get(b).head) return 0;
            }
        }
        for (int h = 0; h < heads.size(); h++) {
            int own = -1;
            for (int d = 0; d < ideas.size(); d++) if (ideas.get(d).head == h) own = d;
            for (int d = 0; d < ideas.size(); d++) {
                int by = ideas.get(d).head;
                if (d == own || own >= 0 && !headRather(h, d, own)) continue;
                if (by < 0 || ideaRather(h, by)) return 0;
            }
        }
        return 1;
    }

    private boolean together(int a, int b) {
        return Math.abs(ideas.get(a).shape - ideas.get(b).shape) <= 1;
    }

    /** Every putting of the IDEAS into YOKES is tried. */
    private int fewestYokes(int d, List<List<Integer>> yokes) {
        if (d == ideas.size()) return yokes.size();
        int fewest = 99;
        for (List<Integer> yoke : yokes) {
            boolean fits = true;
            for (int other : yoke) fits &= together(d, other);
            if (!fits) continue;
            yoke.add(d);
            fewest = Math.min(fewest, fewestYokes(d + 1, yokes));
            yoke.remove(yoke.size() - 1);
        }
        List<Integer> own = new ArrayList<>();
        own.add(d);
        List<List<Integer>> more = new ArrayList<>(yokes);
        more.add(own);
        return Math.min(fewest, fewestYokes(d + 1, more));
    }

    int yokes(int what) {
        if (what < 0 || what > 2) return -1;
        if (what == 0) return fewestYokes(0, new ArrayList<>());
        int best = 0;
        for (int bits = (1 << ideas.size()) - 1; bits >= 0; bits--) {
            boolean clash = true;
            for (int a = 0; a < ideas.size(); a++) {
                for (int b = 0; b < a; b++) {
                    if ((bits >> a & 1) == 1 && (bits >> b & 1) == 1 && together(a, b)) clash = false;
                }
            }
            if (clash && Integer.bitCount(bits) >= Integer.bitCount(best)) best = bits;
        }
        return what == 1 ? Integer.bitCount(best) : best;
    }

    private int edgeRefusal(int ss, int idea) {
        if (ss < 0 || ss / 10 > 5 || ss % 10 > 5 || idea < 0 || idea >= ideas.size()) return -1;
        return refusal(ss / 10) != 0 ? refusal(ss / 10) : refusal(ss % 10);
    }

    private int judged(int ss, Idea d) {
        List<Integer> stages = stages(ss / 10), told = new ArrayList<>();
        for (int n = 0; n <= stages.size(); n++) {
            int[] t = thought(d, stages.subList(0, n));
            if (t[4] != -2) break;
            told.add(t[2]);
        }
        byte[] row = (byte[]) shelves[ss % 10];
        for (int i = 0; i < row.length; i++) if (i >= told.size() || told.get(i) != row[i]) return i;
        return -2;
    }

    int judge(int ss, int idea) {
        return edgeRefusal(ss, idea) != 0 ? edgeRefusal(ss, idea) : judged(ss, ideas.get(idea));
    }

    int edge(int ss, int idea, int what) {
        if (what < 0 || what > 1) return -1;
        if (edgeRefusal(ss, idea) != 0) return edgeRefusal(ss, idea);
        int bits = 0;
        for (int v = 0; v < (what == 0 ? 4 : 6); v++) {
            Idea d = ideas.get(idea).copy();
            if (what == 0) d.metal = v;
            if (what == 1) d.shape = v;
            if (judged(ss, d) == -2) bits += 1 << v;
        }
        return bits;
    }

    private static int turns(Idea d, int left, boolean smith) {
        if (left == 0) return d.worn;
        int best = smith ? 1000 : -1;
        for (int deed = 0; deed < 3; deed++) {
            Idea next = d.copy();
            if (smith && deed > 0) strike(next, deed == 1 ? 0 : 3);
            if (!smith && deed == 1) next.worn = Math.min(99, next.worn + 7);
            if (!smith && deed == 2) next.heat = Math.max(0, next.heat - 1);
            int v = turns(next, left - 1, !smith);
            best = smith ? Math.min(best, v) : Math.max(best, v);
        }
        return best;
    }

    int byTurns(int idea, int n, int what) {
        if (idea < 0 || idea >= ideas.size() || n < 1 || n > 5 || what < 0 || what > 1) return -1;
        int best = turns(ideas.get(idea), n, true);
        if (what == 0) return best;
        if (turns(ideas.get(idea), n - 1, false) == best) return 4;
        Idea heated = ideas.get(idea).copy();
        strike(heated, 0);
        return turns(heated, n - 1, false) == best ? 0 : 3;
    }

    int drawn(int seed, int nm, int idea, int what) {
        int n = Math.floorDiv(nm, 100), m = Math.floorMod(nm, 100);
        if (n < 1 || n > 30 || m < 1 || m > 40 || idea < 0 || idea >= ideas.size() || what < 0 || what > 1) return -1;
        int[] told = new int[2];
        int z = seed, will = ideas.get(idea).head < 0 ? 6 : heads.get(ideas.get(idea).head).will;
        for (int life = 0; life < n; life++) {
            Idea d = ideas.get(idea).copy();
            for (int i = 0; i < m && !roads.isEmpty(); i++) {
                z = z * 1103515245 + 12345;
                if ((z >>> 16) % 12 < will) strike(d, 3);
                told[0] += Math.max(0, go(d, roads.get((z >>> 8) % roads.size())));
            }
            if (d.worn == 99) told[1]++;
        }
        return told[what];
    }

    int stroke(int idea, int how) {
        if (idea < 0 || idea >= ideas.size() || how < 0 || how > 3) return -1;
        String before = ideas.get(idea).tell();
        strike(ideas.get(idea), how);
        boolean done = !before.equals(ideas.get(idea).tell());
        led[done ? 0 : 1]++;
        return done ? 1 : 0;
    }

    int goes(int idea, int road) {
        if (idea < 0 || idea >= ideas.size() || road < 0 || road >= roads.size()) return -1;
        int gone = go(ideas.get(idea), roads.get(road));
        if (gone < 0) return -5;
        if (gone == roads.get(road).miles) led[2]++;
        led[3] += gone;
        if (ideas.get(idea).worn == 99) led[4]++;
        return gone;
    }

    int deal() {
        int[] had = asked();
        for (Idea d : ideas) d.head = -1;
        int dealt = 0;
        for (int h = 0; h < had.length; h++) {
            if (had[h] < 0) continue;
            ideas.get(had[h]).head = h;
            dealt++;
        }
        return dealt;
    }

    int led(int what) {
        return what < 0 || what > 4 ? -1 : led[what];
    }

    int image() {
        imageIdeas = new ArrayList<>();
        for (Idea d : ideas) imageIdeas.add(d.copy());
        imageLed = led.clone();
        return led[3];
    }

    int back() {
        if (imageIdeas == null) return -5;
        for (int i = 0; i < imageIdeas.size(); i++) {
            Idea d = imageIdeas.get(i).copy();
            d.metal = ideas.get(i).metal;
            d.cast = ideas.get(i).cast;
            ideas.set(i, d);
        }
        led = imageLed.clone();
        return led[3];
    }

    int undo() {
        if (undos.isEmpty()) return -5;
        int[] c = undos.remove(undos.size() - 1);
        set(c[0], c[1], c[2]);
        redos.add(c);
        return undos.size();
    }

    int redo() {
        if (redos.isEmpty()) return -5;
        int[] c = redos.remove(redos.size() - 1);
        set(c[0], c[1], c[3]);
        undos.add(c);
        return redos.size();
    }

    int body(int kind) {
        if (kind < 0 || kind > 7) return -1;
        if (bodies.size() == 50) return -3;
        bodies.add(Smiths.make(kind, bodies.size(), ran));
        return bodies.size() - 1;
    }

    int act(int body, int act, int x) {
        ran.clear();
        if (body < 0 || body >= bodies.size() || act < 0 || act > 3) return 0;
        Smiths.Smith s = bodies.get(body);
        if (act == 0) return s.heats(x);
        if (act == 1) return s.draws(x);
        return act == 2 ? s.nails(x) : s.tells(x);
    }

    int trace(int i) {
        return i < 0 || i >= ran.size() || i >= 24 ? -1 : ran.get(i);
    }

    int keep(int shelf, int body) {
        if (shelf < 0 || shelf > 5 || body < -1 || body >= bodies.size()) return -1;
        shelves[shelf] = body < 0 ? null : bodies.get(body);
        return 1;
    }

    int row(int shelf, int sort, int n) {
        if (shelf < 0 || shelf > 5 || sort < 0 || sort > 4 || n > 60) return -1;
        try {
            Object row = sort == 0 ? new byte[n] : sort == 1 ? new short[n] : sort == 2 ? new int[n]
                : sort == 3 ? new long[n] : new boolean[n];
            shelves[shelf] = row;
            return 1;
        } catch (NegativeArraySizeException e) {
            return -14;
        }
    }

    private static boolean isRow(Object held) {
        return held.getClass().isArray();
    }

    int put(int shelf, int i, long v) {
        if (shelf < 0 || shelf > 5) return -1;
        Object row = shelves[shelf];
        if (row == null) return -11;
        if (!isRow(row)) return -12;
        try {
            if (row instanceof byte[]) ((byte[]) row)[i] = (byte) v;
            else if (row instanceof short[]) ((short[]) row)[i] = (short) v;
            else if (row instanceof int[]) ((int[]) row)[i] = (int) v;
            else if (row instanceof long[]) ((long[]) row)[i] = v;
            else ((boolean[]) row)[i] = v != 0;
            return 1;
        } catch (ArrayIndexOutOfBoundsException e) {
            return -13;
        }
    }

    long element(int shelf, int i) {
        if (shelf < 0 || shelf > 5 || shelves[shelf] == null || !isRow(shelves[shelf])) return Long.MIN_VALUE;
        Object row = shelves[shelf];
        try {
            if (row instanceof boolean[]) return ((boolean[]) row)[i] ? 1 : 0;
            return java.lang.reflect.Array.getLong(row, i);
        } catch (ArrayIndexOutOfBoundsException e) {
            return Long.MIN_VALUE;
        }
    }

    @SuppressWarnings("SuspiciousSystemArraycopy")
    int shift(int shelf, int i, int other, int j, int n) {
        if (shelf < 0 || shelf > 5 || other < 0 || other > 5) return -1;
        try {
            System.arraycopy(shelves[shelf], i, shelves[other], j, n);
            return n;
        } catch (NullPointerException e) {
            return -11;
        } catch (ArrayStoreException e) {
            return -12;
        } catch (IndexOutOfBoundsException e) {
            return -13;
        }
    }

    int taken(int shelf, int k) {
        if (shelf < 0 || shelf > 5 || k < 0 || k > 7) return -1;
        if (shelves[shelf] == null) return -11;
        try {
            Object taken = Smiths.KINDS.get(k).cast(shelves[shelf]);
            return Smiths.KINDS.indexOf(taken.getClass());
        } catch (ClassCastException e) {
            return -12;
        }
    }

    int count(int what) {
        int[] all = {heads.size(), ideas.size(), roads.size(), tape.length(), undos.size(), bodies.size(), ran.size()};
        return what < 0 || what >= all.length ? -1 : all[what];
    }
}
