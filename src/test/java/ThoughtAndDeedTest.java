import java.util.ArrayList;
import java.util.List;
import java.util.Random;

/** Promises 10 to 29: what is thought of is held against what comes of it in deed, on objects made anew by the same calls. */
public final class ThoughtAndDeedTest {
    private static final int FORGES = 400, JOURNEY = 0, TOLD = 1;
    private static final String[] LAWS = {"", "", "1", "0", "2", "w<50?2;1", "w%3", "h>0?1;3", "f", "s/3+k", "m>1?1;3", "w>80?3;w/20", "f<2?1;f<4?2;4",
        "!w+k*2", "(w+h)%5", "w%2?3;0", "s>w/11?5;m=0|k=2?4;1", "h?h%3;2"};

    /** What makes the forge: the same for each seed. */
    private final int seed;

    private ThoughtAndDeedTest(int seed) {
        this.seed = seed;
    }

    public static void main(String[] args) {
        for (int seed = 0; seed < FORGES; seed++) {
            ThoughtAndDeedTest one = new ThoughtAndDeedTest(seed);
            int ideas = one.forge().count(1);
            for (int idea = 0; idea < Math.min(3, ideas); idea++) one.thoughtsOf(idea);
            one.dealing();
            one.settling();
            one.yoking();
            one.undoing();
            one.layingBack();
        }
        Due.end();
    }

    private void thoughtsOf(int idea) {
        wearing(idea);
        going(idea);
        striking(idea);
        wandering(idea);
        reaching(idea);
        judging(idea);
        drawing(idea);
    }

    private void due(String what, long got, long want) {
        Due.due("forge " + seed + ": " + what, got, want);
    }

    /** Some hundred calls. */
    private ColdShod forge() {
        Random random = new Random(seed);
        ColdShod x = new ColdShod();
        int heads = random.nextInt(4), ideas = 1 + random.nextInt(4), roads = 1 + random.nextInt(9);
        for (int h = 0; h < heads; h++) {
            x.head(random.nextInt(6));
            x.mend(h, 1, random.nextInt(13));
        }
        for (int d = 0; d < ideas; d++) {
            x.idea(random.nextInt(4), random.nextInt(6));
            x.mend(d, 4, random.nextInt(3) == 0 ? 80 + random.nextInt(20) : random.nextInt(70));
            x.mend(d, 5, random.nextInt(2) * random.nextInt(10));
            x.mend(d, 6, random.nextInt(4) / 3);
            x.mend(d, 7, random.nextInt(3));
            x.mend(d, 8, random.nextInt(heads + 1) - 1);
        }
        int places = 3 + random.nextInt(4);
        for (int r = 0; r < roads; r++) {
            int from = random.nextInt(places), to = (from + 1 + random.nextInt(places - 1)) % places;
            x.road(10 * from + to, 1 + random.nextInt(9));
            x.mend(r, 10, random.nextInt(2) * random.nextInt(10));
            x.mend(r, 11, random.nextInt(3));
        }
        String law = LAWS[random.nextInt(LAWS.length)];
        if (!law.isEmpty()) Due.lawOf(x, law);
        int[] journey = new int[random.nextInt(6)];
        for (int i = 0; i < journey.length; i++) journey[i] = random.nextInt(roads);
        Due.bytes(x, JOURNEY, journey);
        return x;
    }

    /** The ROADS of the JOURNEY. */
    private static List<Integer> stages(ColdShod x) {
        List<Integer> roads = new ArrayList<>();
        for (int i = 0; x.element(JOURNEY, i) != Long.MIN_VALUE; i++) roads.add((int) x.element(JOURNEY, i));
        return roads;
    }

    /** A mile of a ROAD: WORN is as much more as was told. */
    private void wearing(int idea) {
        for (int road = 0; road < forge().count(2); road++) {
            ColdShod x = forge();
            x.mend(road, 9, 1);
            int wears = x.wears(idea, road), worn = x.of(idea, 4);
            boolean goes = worn < 99 && x.of(road, 10) <= x.of(idea, 14);
            due("wears, then goes", x.goes(idea, road), goes ? 1 : ColdShod.STATE);
            due("WORN", x.of(idea, 4), goes ? Math.min(99, worn + wears) : worn);
        }
    }

    /** Goes ROADS in deed, one behind the other, till one is not gone to its end: how many were. */
    private static int gone(ColdShod x, int idea, List<Integer> roads) {
        int ended = 0;
        for (int road : roads) {
            if (x.goes(idea, road) != x.of(road, 9)) return ended;
            ended++;
        }
        return ended;
    }

    private void going(int idea) {
        ColdShod x = forge();
        int[] told = new int[5];
        for (int what = 0; what <= 4; what++) told[what] = x.journey(JOURNEY, idea, what);
        List<Integer> roads = stages(x);
        int lame = x.of(idea, 4) == 99 ? 0 : 1, ended = gone(x, idea, roads);
        due("journey, ROADS", told[1], ended);
        due("journey, the first not gone", told[4], ended == roads.size() ? ColdShod.NOT : ended);
        due("journey, MILES", told[0], x.led(3));
        due("journey, WORN", told[2], x.of(idea, 4));
        due("journey, HEAT", told[3], x.of(idea, 5));
        due("ROADS are led", x.led(2), ended);
        due("LAME ones are led", x.led(4), x.of(idea, 4) == 99 ? lame : 0);
    }

    private boolean goesBehind(int idea, int length, int code) {
        ColdShod x = forge();
        for (int i = length - 1; i >= 0; i--) x.stroke(idea, code >> 2 * i & 3);
        List<Integer> roads = stages(x);
        return gone(x, idea, roads) == roads.size();
    }

    /** All STROKES are tried in deed, fewer ones and lesser ones first. */
    private void striking(int idea) {
        ColdShod x = forge();
        int fewest = x.strokes(JOURNEY, idea, -1), found = ColdShod.NOT, code = 0;
        for (int length = 0; length <= 4 && found == ColdShod.NOT; length++) {
            for (code = 0; code < 1 << 2 * length; code++) {
                if (!goesBehind(idea, length, code)) continue;
                found = length;
                break;
            }
        }
        due("the fewest strokes of " + idea, fewest, found);
        for (int k = 0; k < found; k++) due("stroke " + k, x.strokes(JOURNEY, idea, k), code >> 2 * (found - 1 - k) & 3);
        due("no more strokes", x.strokes(JOURNEY, idea, Math.max(0, found)), ColdShod.NOT);
        for (int k = 0; k < found; k++) due("each is done", x.stroke(idea, x.strokes(JOURNEY, idea, 0)), 1);
        if (found >= 0) due("none is wanted then", x.strokes(JOURNEY, idea, -1), 0);
    }

    /** All ways between two PLACES are gone in deed. */
    private void wandering(int idea) {
        ColdShod x = forge();
        int[][] roads = roads(x);
        for (int ft : new int[] {1, 2, 20, 12}) {
            List<List<Integer>> ways = new ArrayList<>();
            ways(roads, ft / 10, ft % 10, 1 << ft / 10, new ArrayList<>(), ways);
            int least = ColdShod.NOT;
            List<Integer> best = new ArrayList<>();
            for (List<Integer> way : ways) {
                ColdShod y = forge();
                if (gone(y, idea, way) < way.size()) continue;
                int worn = y.of(idea, 4);
                boolean better = least == ColdShod.NOT || worn < least || worn == least && isBefore(way, best);
                if (!better) continue;
                least = worn;
                best = way;
            }
            due("way " + ft + ", WORN", x.way(idea, ft, -1), least);
            due("way " + ft + ", ROADS", x.way(idea, ft, -2), best.isEmpty() ? ColdShod.NOT : best.size());
            for (int k = 0; k < best.size(); k++) due("way " + ft + ", ROAD " + k, x.way(idea, ft, k), best.get(k));
            due("way " + ft + " has no more", x.way(idea, ft, best.size()), ColdShod.NOT);
        }
    }

    /** FROM, TO, STEEP of each ROAD. */
    private static int[][] roads(ColdShod x) {
        int[][] told = new int[x.count(2)][];
        for (int road = 0; road < told.length; road++) told[road] = new int[] {x.of(road, 12), x.of(road, 13), x.of(road, 10)};
        return told;
    }

    private static void ways(int[][] roads, int at, int to, int seen, List<Integer> trail, List<List<Integer>> all) {
        if (at == to) all.add(new ArrayList<>(trail));
        if (at == to) return;
        for (int road = roads.length - 1; road >= 0; road--) {
            int from = roads[road][0], end = roads[road][1], next = from == at ? end : end == at ? from : at;
            if ((seen >> next & 1) == 1) continue;
            trail.add(road);
            ways(roads, next, to, seen | 1 << next, trail, all);
            trail.remove(trail.size() - 1);
        }
    }

    private static boolean isBefore(List<Integer> one, List<Integer> other) {
        if (one.size() != other.size()) return one.size() < other.size();
        for (int i = 0; i < one.size(); i++) {
            if (!one.get(i).equals(other.get(i))) return one.get(i) < other.get(i);
        }
        return false;
    }

    private void reaching(int idea) {
        ColdShod x = forge();
        int[][] roads = roads(x);
        int grip = x.of(idea, 14);
        for (int place = 0; place < 8; place++) due("reach from " + place, x.reach(idea, place), flooded(roads, grip, place, 0));
    }

    /** The PLACES seen so far, and those that can be come to from this one besides. */
    private static int flooded(int[][] roads, int grip, int place, int seen) {
        int all = seen | 1 << place;
        for (int[] road : roads) {
            int next = road[0] == place ? road[1] : road[1] == place ? road[0] : place;
            if (road[2] <= grip && (all >> next & 1) == 0) all = flooded(roads, grip, next, all);
        }
        return all;
    }

    /** WORN as it becomes in deed is what JUDGED wants, and METALS and SHAPES are judged one by one. */
    private void judging(int idea) {
        ColdShod x = forge();
        List<Integer> worn = new ArrayList<>();
        worn.add(x.of(idea, 4));
        for (int road : stages(x)) {
            if (x.goes(idea, road) != x.of(road, 9)) break;
            worn.add(x.of(idea, 4));
        }
        for (int length = 0; length <= worn.size() + 1; length++) {
            ColdShod y = forge();
            y.row(TOLD, 0, length);
            for (int i = 0; i < length; i++) y.put(TOLD, i, i < worn.size() ? worn.get(i) : 99);
            due("judge", y.judge(10 * JOURNEY + TOLD, idea), length <= worn.size() ? ColdShod.NOT : worn.size());
            for (int what = 0; what <= 1; what++) {
                int bits = 0;
                for (int v = 0; v < 4 + 2 * what; v++) {
                    int was = y.mend(idea, 2 + what, v);
                    if (y.judge(10 * JOURNEY + TOLD, idea) == ColdShod.NOT) bits |= 1 << v;
                    y.mend(idea, 2 + what, was);
                }
                due("edge " + what, y.edge(10 * JOURNEY + TOLD, idea, what), bits);
            }
            if (length == 0 || length > worn.size()) continue;
            y.put(TOLD, length - 1, worn.get(length - 1) + 1);
            due("judge of one that is not so", y.judge(10 * JOURNEY + TOLD, idea), length - 1);
        }
    }

    /** The lives are lived in deed, each from the same image on. */
    private void drawing(int idea) {
        for (int[] nm : new int[][] {{1, 40}, {5, 9}, {30, 2}, {3, 20}}) {
            ColdShod x = forge();
            int head = x.of(idea, 8), will = head < 0 ? 6 : x.of(head, 1), z = seed * 7919, miles = 0, lame = 0;
            int thought = x.drawn(z, 100 * nm[0] + nm[1], idea, 0), ends = x.drawn(z, 100 * nm[0] + nm[1], idea, 1);
            x.image();
            for (int life = 0; life < nm[0]; life++) {
                for (int i = 0; i < nm[1]; i++) {
                    z = z * 1103515245 + 12345;
                    if ((z >>> 16) % 12 < will) x.stroke(idea, 3);
                    miles += Math.max(0, x.goes(idea, (z >>> 8) % x.count(2)));
                }
                if (x.of(idea, 4) == 99) lame++;
                x.back();
            }
            due("drawn, MILES", thought, miles);
            due("drawn, LAME ends", ends, lame);
        }
    }

    private void dealing() {
        ColdShod x = forge();
        int had = 0;
        int[] asked = new int[x.count(0)];
        for (int h = 0; h < asked.length; h++) {
            asked[h] = x.asks(h);
            if (asked[h] >= 0) had++;
        }
        due("as many as can be have one", had, Math.min(x.count(0), x.count(1)));
        due("deal", x.deal(), had);
        for (int d = 0; d < x.count(1); d++) {
            int by = -1;
            for (int h = 0; h < asked.length; h++) if (asked[h] == d) by = h;
            due("HEAD of " + d, x.of(d, 8), by);
        }
        due("settled", x.settled(), 1);
        due("dealt again", x.deal(), had);
    }

    /** All IDEAS would rather have the same HEAD, so one dealing alone is settled: every other one is tried. */
    private void settling() {
        ColdShod x = forge();
        int heads = x.count(0), ideas = x.count(1), all = 1;
        x.deal();
        int[] dealt = new int[ideas];
        for (int d = 0; d < ideas; d++) {
            dealt[d] = x.of(d, 8);
            all *= heads + 1;
        }
        ColdShod y = forge();
        for (int code = 0; code < all; code++) {
            if (code % 50 == 0) y = forge();
            boolean same = true;
            for (int d = 0, left = code; d < ideas; d++, left /= heads + 1) {
                y.mend(d, 8, left % (heads + 1) - 1);
                same &= left % (heads + 1) - 1 == dealt[d];
            }
            due("settled by " + code, y.settled(), same ? 1 : 0);
        }
    }

    private void yoking() {
        ColdShod x = forge();
        int which = x.yokes(2);
        // as many YOKES are wanted as IDEAS clash, since each of those wants one of its own
        due("yokes and clash", x.yokes(0), x.yokes(1));
        due("how many, and which", x.yokes(1), Integer.bitCount(which));
        for (int a = 0; a < x.count(1); a++) {
            for (int b = 0; b < a; b++) {
                boolean both = (which >> a & which >> b & 1) == 1;
                if (both) due("no two go together", Math.abs(x.of(a, 3) - x.of(b, 3)) > 1 ? 1 : 0, 1);
            }
        }
    }

    private static List<Integer> numbers(ColdShod x) {
        List<Integer> told = new ArrayList<>();
        int heads = x.count(0), ideas = x.count(1), roads = x.count(2);
        for (int what = 0; what <= 11; what++) {
            int many = what < 2 ? heads : what < 9 ? ideas : roads;
            for (int number = 0; number < many; number++) told.add(x.of(number, what));
        }
        return told;
    }

    /** What it is behind so many undone, and so many of them done again. */
    private List<Integer> undone(int undos, int redos) {
        ColdShod x = forge();
        int changes = x.count(4);
        for (int i = 1; i <= undos; i++) due("undo", x.undo(), changes - i);
        for (int i = 1; i <= redos; i++) due("redo", x.redo(), undos - i);
        if (redos == undos) due("no more to redo", x.redo(), ColdShod.STATE);
        due("as many to undo", x.count(4), changes - undos + redos);
        return numbers(x);
    }

    private void undoing() {
        int most = Math.min(4, forge().count(4));
        List<List<Integer>> seen = new ArrayList<>();
        for (int undos = 0; undos <= most; undos++) {
            seen.add(undone(undos, 0));
            if (undos > 0) due("one number is another", unlike(seen.get(undos), seen.get(undos - 1)), 1);
            for (int redos = 1; redos <= undos; redos++) {
                due("as it was behind " + (undos - redos), unlike(undone(undos, redos), seen.get(undos - redos)), 0);
            }
        }
    }

    /** How many numbers are unlike. */
    private static int unlike(List<Integer> one, List<Integer> other) {
        int many = 0;
        for (int i = 0; i < one.size(); i++) if (!one.get(i).equals(other.get(i))) many++;
        return many;
    }

    /** Deeds of all kinds, and then all is as it was. */
    private void layingBack() {
        ColdShod x = forge();
        Random random = new Random(seed);
        for (int i = 0; i < 20; i++) deed(x, random);
        List<Integer> now = numbers(x);
        int[] led = new int[5];
        for (int what = 0; what < 5; what++) led[what] = x.led(what);
        due("image", x.image(), led[3]);
        for (int i = 0; i < 60; i++) deed(x, random);
        due("back", x.back(), led[3]);
        due("as it was", numbers(x).equals(now) ? 1 : 0, 1);
        for (int what = 0; what < 5; what++) due("led " + what, x.led(what), led[what]);
    }

    private static void deed(ColdShod x, Random random) {
        int idea = random.nextInt(x.count(1)), which = random.nextInt(9);
        if (which == 0) x.deal();
        else if (which < 5) x.stroke(idea, random.nextInt(4));
        else x.goes(idea, random.nextInt(x.count(2)));
    }
}
