import java.util.ArrayList;
import java.util.List;

/** The sentences that name no bound: what the forge is at first, both doing their best, thought and deed, KINDS, BODIES of acts. */
final class PlainSentences {
    /** The KINDS above each one, itself first. */
    private static final int[][] ABOVE = {{0}, {1, 0}, {2, 0}, {3, 2, 0}, {4, 1, 0}, {5, 3, 2, 0}, {6, 0}, {7, 4, 1, 0}};

    private PlainSentences() {
    }

    static void all() {
        coldForge();
        bothDoTheirBest();
        inDeed();
        kinds();
        interfacesOfSmith();
        bodiesOfSmith();
        bodiesOfLad();
        bodiesOfTongs();
        bodiesOfAnvil();
        bodiesOfCurate();
        bodiesOfDon();
        bodiesOfKicker();
        bodiesOfSister();
        nextKindAbove();
        superFromAbove();
        ownMemory();
        rowsAhead();
        laterCalls();
    }

    private static void coldForge() {
        Doc.says("A cold forge.");
        Run r = Run.begin();
        for (int what = 0; what <= 6; what++) r.due("count(" + what + ") 0");
        for (int what = 0; what <= 4; what++) r.due("led(" + what + ") 0");
        for (int what = 0; what <= 14; what++) r.due("of(0, " + what + ") VOID");
        for (int shelf = 0; shelf < 6; shelf++) r.due("taken(" + shelf + ", 0) -11");
        r.due("undo() STATE  redo() STATE  back() STATE  trace(0) BAD  settled() 1  deal() 0  yokes(0) 0  yokes(1) 0  yokes(2) 0");
        // no text is THE LAW yet, and what comes is cold
        r.due("law() -100  idea(0, 0) 0  of(0, 5) 0  of(0, 7) 0  road(1, 1) 0  wears(0, 0) 4  stroke(0, 1) 0  stroke(0, 3) 0");
    }

    /** WORN, HEAT, CAST, HEATED of an IDEA told anew. */
    private static Run told(int... now) {
        return Run.begin().does("idea(0, 0) mend(0, 4, " + now[0] + ") mend(0, 5, " + now[1] + ") mend(0, 6, " + now[2] + ") mend(0, 7, "
            + now[3] + ")");
    }

    private static int worth(int n, int... now) {
        return n == 0 ? now[0] : (int) told(now).ask("byTurns(0, " + n + ", 0)");
    }

    /** What it is behind a STROKE in deed (4: nothing). */
    private static int[] behindStroke(int how, int... now) {
        Run r = told(now);
        if (how < 4) r.ask("stroke(0, " + how + ")");
        return new int[] {(int) r.ask("of(0, 4)"), (int) r.ask("of(0, 5)"), now[2], (int) r.ask("of(0, 7)")};
    }

    /** The most that the kicker makes of it, if so many deeds come behind his. */
    private static int kicked(int left, int... now) {
        int most = worth(left, now);
        most = Math.max(most, worth(left, Math.min(99, now[0] + 7), now[1], now[2], now[3]));
        return Math.max(most, worth(left, now[0], Math.max(0, now[1] - 1), now[2], now[3]));
    }

    /** Longer turns are held against shorter ones: a deed of the smith's, one of the kicker's, and the rest. */
    private static void bothDoTheirBest() {
        Doc.says("the smith wants WORN least behind them, the kicker most: that, if both do their best;");
        for (int worn : new int[] {0, 3, 10, 17, 50, 88, 95, 99}) {
            for (int heat : new int[] {0, 1, 2, 3, 4, 9}) {
                for (int[] cast : new int[][] {{0, 0}, {0, 9}, {1, 0}, {1, 1}}) {
                    for (int n = 1; n <= 5; n++) bestOf(n, worn, heat, cast[0], cast[1]);
                }
            }
        }
    }

    private static void bestOf(int n, int... now) {
        int least = 100, first = 4;
        for (int how : new int[] {4, 0, 3}) {
            int[] then = behindStroke(how, now);
            int worth = n == 1 ? then[0] : kicked(n - 2, then);
            if (worth < least) first = how;
            least = Math.min(least, worth);
        }
        told(now).due("byTurns(0, " + n + ", 0)", least).due("byTurns(0, " + n + ", 1)", first);
    }

    private static void inDeed() {
        Doc.says("IN DEED: a STROKE; an IDEA GOES a ROAD; all HEADS are dealt as asked above.");
        // what was thought of is so once it is done, and was not so before
        Run r = Run.begin().does("head(1) head(4) idea(1, 3) road(1, 6) road(12, 6) mend(0, 4, 80)").law("2").bytes(0, 0, 1);
        r.due("journey(0, 0, 4) 1  strokes(0, 0, -1) 2  strokes(0, 0, 0) 0  strokes(0, 0, 1) 3  of(0, 4) 80  of(0, 5) 0");
        r.due("stroke(0, 0) 1  stroke(0, 3) 1  of(0, 4) 70  of(0, 5) 2  strokes(0, 0, -1) 0  journey(0, 0, 2) 94  journey(0, 0, 3) 0");
        r.due("goes(0, 0) 6  goes(0, 1) 6  of(0, 4) 94  of(0, 5) 0  goes(0, 0) 3  of(0, 4) 99  goes(0, 0) STATE");
        r.due("asks(0) 0  asks(1) NOT  of(0, 8) -1  deal() 1  of(0, 8) 0").does("idea(0, 5)").due("asks(1) 1  of(1, 8) -1  deal() 2  "
            + "of(1, 8) 1  led(0) 2  led(1) 0  led(2) 2  led(3) 15  led(4) 1");
    }

    private static void kinds() {
        Doc.says("0 SMITH; 1 LAD under SMITH; 2 TONGS under SMITH; 3 ANVIL under TONGS; 4 CURATE under LAD; 5 DON under ANVIL;"
            + " 6 KICKER under SMITH; 7 SISTER under CURATE.");
        Run r = Run.begin();
        for (int kind = 0; kind < 8; kind++) {
            r.due("body(" + kind + ")", kind).due("keep(0, " + kind + ") 1");
            for (int k = 0; k < 8; k++) {
                boolean under = false;
                for (int above : ABOVE[kind]) under |= above == k;
                r.due("taken(0, " + k + ")", under ? kind : -12);
            }
        }
    }

    /** A SMITH of a KIND with number 5. */
    private static Run fifth(int kind) {
        return Run.begin().does("body(0) body(0) body(0) body(0) body(0)").due("body(" + kind + ") 5");
    }

    /** Acts of the fifth with x, its answer, and the bodies that ran. */
    private static void acts(int kind, int act, int x, int want, int... bodies) {
        Run r = fifth(kind).due("act(5, " + act + ", " + x + ")", want).due("count(6)", bodies.length);
        for (int i = 0; i < bodies.length; i++) r.due("trace(" + i + ")", bodies[i]);
        r.due("trace(" + bodies.length + ") BAD");
    }

    private static void interfacesOfSmith() {
        Doc.says("BODIES of acts: HEATS (an interface of SMITH): 1 heats: x + n.");
        acts(0, 0, 100, 105, 1);
        acts(0, 0, -5, 0, 1);
        Doc.says("TELLS (of SMITH): 2 tells: draws(x) - nails(1).");
        acts(0, 3, 100, 206, 2, 10, 1, 11);
        acts(0, 3, -5, -4, 2, 10, 1, 11);
    }

    private static void bodiesOfSmith() {
        Doc.says("SMITH: 10 draws: heats(x) * 2. 11 nails: x ^ n.");
        acts(0, 1, 100, 210, 10, 1);
        acts(0, 1, -6, -2, 10, 1);
        acts(0, 2, 100, 97, 11);
        acts(0, 2, 5, 0, 11);
        acts(0, 2, -1, -6, 11);
    }

    private static void bodiesOfLad() {
        Doc.says("LAD: 20 heats: super.heats(x) + 3.");
        acts(1, 0, 100, 108, 20, 1);
        acts(1, 1, 100, 216, 10, 20, 1);
        acts(1, 2, 100, 97, 11);
        acts(1, 3, 100, 212, 2, 10, 20, 1, 11);
    }

    private static void bodiesOfTongs() {
        Doc.says("TONGS: 30 draws: -super.draws(x).");
        acts(2, 0, 100, 105, 1);
        acts(2, 1, 100, -210, 30, 10, 1);
        acts(2, 2, 100, 97, 11);
        acts(2, 3, 100, -214, 2, 30, 10, 1, 11);
    }

    private static void bodiesOfAnvil() {
        Doc.says("ANVIL: 40 nails: super.nails(x) * 3. 41 draws: super.draws(x + 1).");
        acts(3, 0, 100, 105, 1);
        acts(3, 1, 100, -212, 41, 30, 10, 1);
        acts(3, 2, 100, 291, 40, 11);
        acts(3, 3, 100, -224, 2, 41, 30, 10, 1, 40, 11);
    }

    private static void bodiesOfCurate() {
        Doc.says("CURATE: 50 nails: super.nails(x) - heats(2).");
        acts(4, 0, 100, 108, 20, 1);
        acts(4, 1, 100, 216, 10, 20, 1);
        acts(4, 2, 100, 87, 50, 11, 20, 1);
        acts(4, 3, 100, 222, 2, 10, 20, 1, 50, 11, 20, 1);
    }

    private static void bodiesOfDon() {
        Doc.says("DON: 60 tells: super.tells(x) ^ 5.");
        acts(5, 0, 100, 105, 1);
        acts(5, 1, 100, -212, 41, 30, 10, 1);
        acts(5, 2, 100, 291, 40, 11);
        acts(5, 3, 100, -219, 60, 2, 41, 30, 10, 1, 40, 11);
    }

    private static void bodiesOfKicker() {
        Doc.says("KICKER: 70 heats: super.heats(x) * 2.");
        acts(6, 0, 100, 210, 70, 1);
        acts(6, 1, 100, 420, 10, 70, 1);
        acts(6, 2, 100, 97, 11);
        acts(6, 3, 100, 416, 2, 10, 70, 1, 11);
    }

    private static void bodiesOfSister() {
        Doc.says("SISTER: 80 draws: super.draws(x) + nails(2). 81 tells: super.tells(x) - 1.");
        acts(7, 0, 100, 108, 20, 1);
        acts(7, 1, 100, 213, 80, 10, 20, 1, 50, 11, 20, 1);
        acts(7, 2, 100, 87, 50, 11, 20, 1);
        acts(7, 3, 100, 218, 81, 2, 80, 10, 20, 1, 50, 11, 20, 1, 50, 11, 20, 1);
    }

    private static void nextKindAbove() {
        Doc.says("heats(..) and so on (act 0 is heats): the body of its own KIND, or of the next KIND above that has one;");
        int[][] first = {{1, 10, 11, 2}, {20, 10, 11, 2}, {1, 30, 11, 2}, {1, 41, 40, 2}, {20, 10, 50, 2}, {1, 41, 40, 60}, {70, 10, 11, 2},
            {20, 80, 50, 81}};
        for (int kind = 0; kind < 8; kind++) {
            Run r = fifth(kind);
            for (int act = 0; act <= 3; act++) {
                r.ask("act(5, " + act + ", 1)");
                r.due("trace(0)", first[kind][act]);
            }
        }
    }

    private static void superFromAbove() {
        Doc.says("super: from the KIND above the body's on.");
        // of the body's KIND, not of the SMITH's own: a DON's 41 goes on at TONGS, a SISTER's 50 at LAD
        Run r = fifth(5);
        r.ask("act(5, 1, 0)");
        r.due("trace(0) 41  trace(1) 30  trace(2) 10  trace(3) 1  trace(4) BAD");
        r = fifth(7);
        r.ask("act(5, 2, 0)");
        r.due("trace(0) 50  trace(1) 11  trace(2) 20  trace(3) 1  trace(4) BAD");
    }

    /** Two objects by turns answer as each of them alone. */
    private static void ownMemory() {
        Doc.says("All memory is the class's own.");
        Scene[] scenes = {Scene.furnished(), Scene.filled()};
        List<List<Long>> alone = new ArrayList<>();
        for (Scene scene : scenes) alone.add(answers(scene));
        Run one = Run.begin(), two = Run.begin();
        int most = Math.max(scenes[0].calls().size(), scenes[1].calls().size());
        for (int i = 0; i < most; i++) {
            if (i < scenes[0].calls().size()) one.due(scenes[0].calls().get(i), alone.get(0).get(i));
            if (i < scenes[1].calls().size()) two.due(scenes[1].calls().get(i), alone.get(1).get(i));
        }
    }

    private static List<Long> answers(Scene scene) {
        List<Long> told = new ArrayList<>();
        Run r = Run.begin();
        for (String call : scene.calls()) told.add(r.ask(call));
        return told;
    }

    /** What the rows ahead of the calls name holds for each of those calls. */
    private static void rowsAhead() {
        Doc.says("heads, ideas, roads (ft: 10 times the PLACE from, and that to, unlike).");
        for (int from = 0; from <= 9; from++) {
            for (int to = 0; to <= 9; to++) {
                boolean so = from <= 7 && to <= 7 && from != to;
                int ft = 10 * from + to;
                Run r = Run.begin().does("idea(0, 0)").due("way(0, " + ft + ", -1)", so ? -2 : -1).due("road(" + ft + ", 3)", so ? 0 : -1);
                if (so) r.due("of(0, 12)", from).due("of(0, 13)", to).due("way(0, " + ft + ", -2) 1");
                else r.due("count(2) 0  of(0, 12) VOID");
            }
        }
        Doc.says("heads for ideas, yokes.");
        Run.begin().does("head(2) idea(0, 5)").due("asks(0) 0  settled() 0  yokes(0) 1");
        Doc.says("in deed.");
        Run.begin().does("idea(0, 0) road(1, 1)").due("stroke(0, 0) 1  goes(0, 0) 1  deal() 0  led(3) 1  image() 1  back() 1  undo() STATE  "
            + "redo() STATE");
        Doc.says("acts, shelves.");
        Run.begin().due("body(0) 0  act(0, 0, 7) 7  trace(0) 1  keep(0, 0) 1  taken(0, 0) 0  row(0, 2, 2) 1  put(0, 1, 9) 1  element(0, 1) 9  "
            + "shift(0, 1, 0, 0, 1) 1  element(0, 0) 9  count(5) 1");
        Doc.says("the edge (ss: 10 times the SHELF of the JOURNEY, and that of WORN: BAD, -11, -12; the JOURNEY first).");
        Run.begin().does("idea(0, 0) road(1, 4)").law("2").bytes(3, 0, 0).bytes(4, 0, 8, 16).due("judge(34, 0) NOT  judge(43, 0) 1  "
            + "edge(34, 0, 0) 15  edge(43, 0, 0) 0  byTurns(0, 2, 0) 7  drawn(1, 102, 0, 0) 8");
    }

    /** What they answer is free, but that none may throw. */
    private static void laterCalls() {
        Doc.says("An object is used for at most 512 calls after it has been made; what later calls answer is free.");
        Run r = Run.begin().does("idea(0, 0) road(1, 9)");
        for (int i = 0; i < 508; i++) r.due("stroke(0, 3) 0");
        r.due("led(1) 508  goes(0, 0) 9");
        ColdShod x = new ColdShod();
        for (int i = 0; i < 20000; i++) {
            int v = i % 131 - 5;
            x.head(v);
            x.idea(v, i % 6);
            x.road(v, i % 10);
            x.mend(i % 9, i % 13, v);
            x.feed(v * 2);
            x.row(i % 7, i % 5, v);
            x.put(i % 7, v, i);
            x.roads(i % 6, v, i % 13);
            x.journey(i % 6, i % 8, i % 5);
            x.stroke(i % 8, i % 4);
            x.goes(i % 8, i % 12);
            x.act(x.body(i % 8), i % 4, i);
            if (i % 50 == 0) x.law();
            if (i % 9 == 0) x.undo();
        }
        Due.due("all that came", x.count(0) + x.count(1) + x.count(2) + x.count(5), 6 + 8 + 12 + 50);
    }
}
