/** Promises 18 to 21: JUDGED, EDGE, BY TURNS, DRAWN. */
public final class EdgeTest {
    public static void main(String[] args) {
        refusals();
        judged();
        edges();
        byTurns();
        byTurnsRefused();
        drawnRefused();
        drawnWithoutRoads();
        drawnByHand();
        Due.end();
    }

    private static void refusals() {
        ColdShod x = new ColdShod();
        x.idea(0, 0);
        x.body(0);
        for (int ss : new int[] {-1, 6, 60, 9, 66, 100, Integer.MIN_VALUE, Integer.MAX_VALUE}) {
            Due.due("judge " + ss, x.judge(ss, 0), -1);
            Due.due("edge " + ss, x.edge(ss, 0, 0), -1);
        }
        Due.due("judge: nothing", x.judge(1, 0), -11);
        Due.due("judge: BAD ahead of -11", x.judge(1, 1), -1);
        Due.due("edge: BAD ahead of -11", x.edge(1, 0, 2), -1);
        Due.due("edge: what -1", x.edge(1, 0, -1), -1);
        Due.due("edge: idea -1", x.edge(1, -1, 0), -1);
        Due.due("edge: nothing", x.edge(1, 0, 1), -11);
        x.row(0, 0, 0);
        Due.due("judge: no WORN", x.judge(1, 0), -11);
        Due.due("edge: no WORN", x.edge(1, 0, 0), -11);
        x.keep(1, 0);
        Due.due("judge: a smith for WORN", x.judge(1, 0), -12);
        Due.due("judge: a smith for the journey", x.judge(10, 0), -12);
        Due.due("judge: the journey first", x.judge(12, 0), -12);
        Due.due("judge: the journey first", x.judge(21, 0), -11);
        Due.due("edge: the journey first", x.edge(12, 0, 0), -12);
        Due.due("edge: the journey first", x.edge(21, 0, 0), -11);
    }

    private static void judged() {
        ColdShod x = new ColdShod();
        x.idea(0, 0);
        x.road(1, 2);
        x.road(12, 3);
        Due.lawOf(x, "1");
        x.mend(0, 4, 7);
        Due.bytes(x, 0, 0, 1, 0);
        Due.bytes(x, 5);
        Due.due("nothing is told", x.judge(5, 0), -2);
        Due.bytes(x, 5, 7, 9, 12, 14);
        Due.due("all is so", x.judge(5, 0), -2);
        Due.bytes(x, 5, 7, 9, 12, 14, 14);
        Due.due("more than that", x.judge(5, 0), 4);
        Due.bytes(x, 5, 7, 9);
        Due.due("less than that", x.judge(5, 0), -2);
        Due.bytes(x, 5, 6, 9);
        Due.due("not so at first", x.judge(5, 0), 0);
        Due.bytes(x, 5, 7, 9, 13, 15);
        Due.due("not so later", x.judge(5, 0), 2);
        x.mend(1, 10, 9);
        x.mend(0, 4, 12);
        Due.bytes(x, 5, 12, 14, 14);
        Due.due("as far as they are gone", x.judge(5, 0), 2);
        Due.bytes(x, 5, 12, 14);
        Due.due("so far it is so", x.judge(5, 0), -2);
        x.mend(1, 10, 0);
        x.mend(0, 4, 96);
        Due.bytes(x, 5, 96, 98, 99);
        Due.due("lame within a road", x.judge(5, 0), 2);
        x.mend(0, 4, 94);
        Due.bytes(x, 5, 94, 96, 99, 99);
        Due.due("lame at a road's end", x.judge(5, 0), 3);
        Due.due("in thought alone", x.of(0, 4), 94);
        x.mend(0, 4, 0);
        x.mend(0, 9, 1);
        x.row(0, 0, 60);
        x.row(5, 0, 60);
        for (int i = 0; i < 60; i++) x.put(5, i, i);
        Due.due("a journey has twenty roads at most", x.judge(5, 0), 21);
        Due.due("one row for both", x.judge(0, 0), 1);
        Due.bytes(x, 4, 0, 0);
        Due.bytes(x, 5, 0, 1, 2, 4);
        Due.due("SHELVES 4 and 5", x.judge(45, 0), 3);
        Due.due("SHELVES 5 and 4", x.judge(54, 0), 1);
        Due.due("SHELVES 5 and 5", x.judge(55, 0), 2);
        Due.due("SHELVES 4 and 5", x.edge(45, 0, 0), 0);
        x.put(5, 3, 2);
        x.shift(5, 0, 4, 0, 2);
        Due.due("SHELVES 5 and 4", x.edge(54, 0, 0), 15);
    }

    private static void edges() {
        ColdShod x = new ColdShod();
        x.head(3);
        x.idea(0, 3);
        x.mend(0, 8, 0);
        x.road(1, 2);
        Due.bytes(x, 2, 0);
        Due.bytes(x, 3, 0, 2);
        Due.due("METALS without a text", x.edge(23, 0, 0), 3);
        Due.due("SHAPES without a text", x.edge(23, 0, 1), 2 + 4 + 8 + 16 + 32);
        Due.bytes(x, 3, 0, 4);
        Due.due("METALS by another wear", x.edge(23, 0, 0), 0);
        Due.due("SHAPES by another wear", x.edge(23, 0, 1), 1);
        Due.lawOf(x, "m*10+f");
        Due.bytes(x, 3, 0, 2);
        Due.due("SHAPES by a law", x.edge(23, 0, 1), 4 + 16);
        Due.bytes(x, 3, 0, 18);
        Due.due("METALS by a law", x.edge(23, 0, 0), 2 + 4 + 8);
        Due.bytes(x, 3, 1);
        Due.due("METALS: none", x.edge(23, 0, 0), 0);
        Due.due("SHAPES: none", x.edge(23, 0, 1), 0);
        Due.bytes(x, 3);
        Due.due("METALS: all", x.edge(23, 0, 0), 15);
        Due.due("SHAPES: all", x.edge(23, 0, 1), 63);
        Due.due("in thought alone", x.of(0, 3), 3);
        Due.due("in thought alone", x.of(0, 2), 0);
    }

    private static void turnsAre(ColdShod x, int n, int worn, int first) {
        Due.due("by " + n + " turns: WORN", x.byTurns(0, n, 0), worn);
        Due.due("by " + n + " turns: first", x.byTurns(0, n, 1), first);
    }

    private static void byTurns() {
        ColdShod x = new ColdShod();
        x.idea(0, 0);
        x.mend(0, 4, 50);
        turnsAre(x, 1, 50, 4);
        turnsAre(x, 2, 57, 4);
        turnsAre(x, 3, 47, 0);
        x.mend(0, 5, 1);
        turnsAre(x, 1, 40, 3);
        turnsAre(x, 2, 47, 3);
        // 3 then 0 or nothing: 47; 0 then 3 of WORN 57: 47; nothing ahead of 3 may be cooled
        turnsAre(x, 3, 47, 0);
        x.mend(0, 5, 2);
        turnsAre(x, 3, 40, 3);
        x.mend(0, 5, 3);
        turnsAre(x, 3, 37, 3);
        x.mend(0, 5, 0);
        x.mend(0, 6, 1);
        x.mend(0, 7, 1);
        turnsAre(x, 5, 64, 4);
        x.mend(0, 6, 0);
        x.mend(0, 4, 99);
        x.mend(0, 5, 9);
        turnsAre(x, 1, 89, 3);
        turnsAre(x, 2, 96, 3);
        turnsAre(x, 5, 83, 3);
        x.mend(0, 5, 0);
        turnsAre(x, 1, 99, 4);
        // a kick is lost at WORN 99, so heating may wait; one NAIL is all that cooling leaves
        turnsAre(x, 5, 89, 4);
        x.mend(0, 5, 9);
        x.mend(0, 4, 0);
        turnsAre(x, 1, 0, 4);
        turnsAre(x, 2, 7, 4);
        turnsAre(x, 3, 0, 4);
        Due.due("in thought alone", x.of(0, 5), 9);
        Due.due("in thought alone", x.of(0, 7), 1);
    }

    private static void byTurnsRefused() {
        ColdShod x = new ColdShod();
        Due.due("byTurns without ideas", x.byTurns(0, 1, 0), -1);
        x.idea(0, 0);
        Due.due("byTurns n 0", x.byTurns(0, 0, 0), -1);
        Due.due("byTurns n 6", x.byTurns(0, 6, 0), -1);
        Due.due("byTurns what -1", x.byTurns(0, 1, -1), -1);
        Due.due("byTurns what 2", x.byTurns(0, 1, 2), -1);
        Due.due("byTurns idea -1", x.byTurns(-1, 1, 0), -1);
    }

    private static void drawnRefused() {
        ColdShod x = new ColdShod();
        Due.due("drawn without ideas", x.drawn(0, 101, 0, 0), -1);
        x.idea(0, 0);
        x.road(1, 1);
        for (int nm : new int[] {0, 1, 40, 100, 141, 199, 3000, 3041, 3101, -101, -1, Integer.MIN_VALUE, Integer.MAX_VALUE}) {
            Due.due("drawn nm " + nm, x.drawn(0, nm, 0, 0), -1);
        }
        Due.due("drawn what -1", x.drawn(0, 101, 0, -1), -1);
        Due.due("drawn what 2", x.drawn(0, 101, 0, 2), -1);
        Due.due("drawn idea 1", x.drawn(0, 101, 1, 0), -1);
        Due.due("drawn 1 of 1", x.drawn(0, 101, 0, 0), 1);
        Due.due("drawn 30 of 40", x.drawn(0, 3040, 0, 1), 30);
    }

    private static void drawnWithoutRoads() {
        ColdShod x = new ColdShod();
        x.idea(0, 0);
        Due.due("MILES without roads", x.drawn(1, 1240, 0, 0), 0);
        Due.due("ends without roads", x.drawn(1, 1240, 0, 1), 0);
        x.mend(0, 4, 99);
        x.mend(0, 5, 9);
        Due.due("MILES of a lame one without roads", x.drawn(1, 1240, 0, 0), 0);
        Due.due("ends of a lame one without roads", x.drawn(1, 1240, 0, 1), 12);
    }

    /** The draws worked out here once more, with a law of 1 a mile and ROADS that none can climb. */
    private static void drawnByHand() {
        for (int seed = -3; seed < 40; seed++) {
            ColdShod x = new ColdShod();
            x.head(0);
            x.idea(0, 0);
            x.road(1, 2);
            x.road(12, 5);
            x.road(23, 9);
            x.mend(2, 10, 9);
            Due.lawOf(x, "1");
            for (int will = -1; will <= 12; will++) {
                x.mend(0, 8, will < 0 ? -1 : 0);
                if (will >= 0) x.mend(0, 1, will);
                x.mend(0, 4, 7 * (seed + 3) % 100);
                x.mend(0, 5, (seed + 3) % 10);
                byHand(x, seed * 7919, 3, 17, will < 0 ? 6 : will);
            }
        }
    }

    private static void byHand(ColdShod x, int seed, int lives, int draws, int will) {
        int z = seed, miles = 0, lame = 0;
        for (int life = 0; life < lives; life++) {
            int worn = x.of(0, 4), heat = x.of(0, 5);
            for (int i = 0; i < draws; i++) {
                z = z * 1103515245 + 12345;
                int road = (z >>> 8) % 3;
                if ((z >>> 16) % 12 < will && heat > 0) {
                    heat--;
                    worn = Math.max(0, worn - 10);
                }
                if (worn == 99 || 9 - worn / 11 < (road == 2 ? 9 : 0)) continue;
                int all = new int[] {2, 5, 9}[road], gone = Math.min(all, 99 - worn);
                worn += gone;
                miles += gone;
                if (gone == all) heat = Math.max(0, heat - 1);
            }
            if (worn == 99) lame++;
        }
        Due.due("drawn MILES by " + seed, x.drawn(seed, 100 * lives + draws, 0, 0), miles);
        Due.due("drawn ends by " + seed, x.drawn(seed, 100 * lives + draws, 0, 1), lame);
    }
}
