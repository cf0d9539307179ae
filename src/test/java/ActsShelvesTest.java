/** Promises 30 to 39: BODIES and their ACTS, THE TRACE, SHELVES, counts. */
public final class ActsShelvesTest {
    public static void main(String[] args) {
        bodies();
        actsByKind();
        actsRefused();
        keeping();
        rows();
        elements();
        shifting();
        taking();
        counting();
        Due.end();
    }

    private static void bodies() {
        ColdShod x = new ColdShod();
        Due.due("body(-1)", x.body(-1), -1);
        Due.due("body(8)", x.body(8), -1);
        for (int i = 0; i < 50; i++) Due.due("body", x.body(i % 8), i);
        Due.due("a fifty-first body", x.body(0), -3);
        Due.due("BAD ahead of FULL", x.body(8), -1);
        Due.due("count(5)", x.count(5), 50);
    }

    private static void actIs(ColdShod x, int body, int act, int v, int want, int... trace) {
        Due.due("act(" + body + ", " + act + ", " + v + ")", x.act(body, act, v), want);
        Due.due("how many ran", x.count(6), trace.length);
        for (int i = 0; i < trace.length; i++) Due.due("trace(" + i + ")", x.trace(i), trace[i]);
        Due.due("no more in the trace", x.trace(trace.length), -1);
        Due.due("trace(-1)", x.trace(-1), -1);
    }

    private static void actsByKind() {
        ColdShod x = new ColdShod();
        Due.due("no trace yet", x.trace(0), -1);
        for (int kind = 0; kind < 8; kind++) x.body(kind);
        actIs(x, 0, 0, 5, 5, 1);
        actIs(x, 0, 1, 5, 10, 10, 1);
        actIs(x, 0, 2, 5, 5, 11);
        actIs(x, 0, 3, 5, 9, 2, 10, 1, 11);
        actIs(x, 1, 0, 5, 9, 20, 1);
        actIs(x, 1, 1, 5, 18, 10, 20, 1);
        actIs(x, 1, 2, 5, 4, 11);
        actIs(x, 1, 3, 5, 18, 2, 10, 20, 1, 11);
        actIs(x, 2, 1, 5, -14, 30, 10, 1);
        actIs(x, 2, 3, 5, -17, 2, 30, 10, 1, 11);
        actIs(x, 3, 1, 5, -18, 41, 30, 10, 1);
        actIs(x, 3, 2, 5, 18, 40, 11);
        actIs(x, 3, 3, 5, -24, 2, 41, 30, 10, 1, 40, 11);
        // a CURATE: nails(5) = (5 ^ 4) - (2 + 4 + 3)
        actIs(x, 4, 2, 5, -8, 50, 11, 20, 1);
        actIs(x, 4, 1, 5, 24, 10, 20, 1);
        actIs(x, 5, 3, 5, (-22 - 12) ^ 5, 60, 2, 41, 30, 10, 1, 40, 11);
        actIs(x, 6, 0, 5, 22, 70, 1);
        actIs(x, 6, 1, 5, 44, 10, 70, 1);
        // a SISTER: draws(5) = 2 * (5 + 7 + 3) + (2 ^ 7) - 12
        actIs(x, 7, 1, 5, 23, 80, 10, 20, 1, 50, 11, 20, 1);
        actIs(x, 7, 3, 5, 23 - (6 - 12) - 1, 81, 2, 80, 10, 20, 1, 50, 11, 20, 1, 50, 11, 20, 1);
        actIs(x, 6, 0, Integer.MAX_VALUE, (Integer.MAX_VALUE + 6) * 2, 70, 1);
        actIs(x, 3, 1, Integer.MAX_VALUE, -((Integer.MIN_VALUE + 3) * 2), 41, 30, 10, 1);
    }

    private static void actsRefused() {
        ColdShod x = new ColdShod();
        Due.due("no such smith", x.act(0, 0, 5), 0);
        x.body(0);
        for (int[] bad : new int[][] {{0, -1}, {0, 4}, {1, 0}, {-1, 0}, {50, 0}}) {
            x.act(0, 3, 5);
            Due.due("a trace is there", x.count(6), 4);
            Due.due("no such smith or act", x.act(bad[0], bad[1], 5), 0);
            Due.due("no trace then", x.count(6), 0);
            Due.due("no trace then", x.trace(0), -1);
        }
    }

    private static void keeping() {
        ColdShod x = new ColdShod();
        Due.due("keep a smith that is not there", x.keep(0, 0), -1);
        x.body(3);
        Due.due("keep(-1, 0)", x.keep(-1, 0), -1);
        Due.due("keep(6, 0)", x.keep(6, 0), -1);
        Due.due("keep(0, -2)", x.keep(0, -2), -1);
        Due.due("keep(0, 1)", x.keep(0, 1), -1);
        Due.due("keep(5, 0)", x.keep(5, 0), 1);
        Due.due("it holds a smith", x.put(5, 0, 1), -12);
        Due.due("keep(5, -1)", x.keep(5, -1), 1);
        Due.due("it holds nothing", x.put(5, 0, 1), -11);
        x.row(5, 0, 1);
        Due.due("keep(5, 1)", x.keep(5, 1), -1);
        Due.due("it holds its row still", x.put(5, 0, 1), 1);
        Due.due("keep(5, -1)", x.keep(5, -1), 1);
        Due.due("nothing is roads from a missing row", x.roads(5, 0, 1), 0);
    }

    private static void rows() {
        ColdShod x = new ColdShod();
        Due.due("row(-1, 0, 1)", x.row(-1, 0, 1), -1);
        Due.due("row(6, 0, 1)", x.row(6, 0, 1), -1);
        Due.due("row(0, -1, 1)", x.row(0, -1, 1), -1);
        Due.due("row(0, 5, 1)", x.row(0, 5, 1), -1);
        Due.due("row(0, 0, 61)", x.row(0, 0, 61), -1);
        Due.due("row(0, 0, -1)", x.row(0, 0, -1), -14);
        Due.due("row(0, 0, MIN)", x.row(0, 0, Integer.MIN_VALUE), -14);
        Due.due("BAD ahead of -14", x.row(0, 5, -1), -1);
        Due.due("nothing is there still", x.put(0, 0, 1), -11);
        for (int sort = 0; sort <= 4; sort++) {
            x = new ColdShod();
            Due.due("row of 60", x.row(0, sort, 60), 1);
            for (int i = 0; i < 60; i++) Due.due("0 at first", x.element(0, i), 0);
            for (int i = 0; i < 60; i++) x.put(0, i, 1);
            Due.due("BAD", x.row(0, 5, 1), -1);
            Due.due("-14", x.row(0, 0, -1), -14);
            Due.due("it holds its row still", x.element(0, 59), 1);
        }
        x.row(0, 0, 0);
        Due.due("a row of none", x.put(0, 0, 1), -13);
    }

    private static void elements() {
        ColdShod x = new ColdShod();
        long none = Long.MIN_VALUE;
        Due.due("put(-1, 0, 1)", x.put(-1, 0, 1), -1);
        Due.due("put(6, 0, 1)", x.put(6, 0, 1), -1);
        Due.due("element(-1, 0)", x.element(-1, 0), none);
        Due.due("element(6, 0)", x.element(6, 0), none);
        Due.due("element of nothing", x.element(0, 0), none);
        x.body(0);
        x.keep(0, 0);
        Due.due("element of a smith", x.element(0, 0), none);
        Due.due("-12 ahead of -13", x.put(0, -1, 0), -12);
        long[] values = {0, 1, -1, 127, 128, 255, 256, -129, 32768, 65536, 1L << 31, 1L << 32, Long.MAX_VALUE, none};
        for (int sort = 0; sort <= 4; sort++) {
            x.row(1, sort, 3);
            Due.due("put below", x.put(1, -1, 1), -13);
            Due.due("put behind", x.put(1, 3, 1), -13);
            Due.due("element below", x.element(1, -1), none);
            Due.due("element behind", x.element(1, 3), none);
            for (long v : values) {
                long[] want = {(byte) v, (short) v, (int) v, v, v != 0 ? 1 : 0};
                Due.due("put", x.put(1, 2, v), 1);
                Due.due("element of sort " + sort + " by " + v, x.element(1, 2), want[sort]);
            }
            Due.due("the others as they were", x.element(1, 1), 0);
        }
    }

    private static void rowIs(ColdShod x, int shelf, int... want) {
        for (int i = 0; i < want.length; i++) Due.due("element " + i, x.element(shelf, i), want[i]);
    }

    private static void shifting() {
        ColdShod x = new ColdShod();
        Due.due("shift(-1, ..)", x.shift(-1, 0, 0, 0, 0), -1);
        Due.due("shift(.., 6, ..)", x.shift(0, 0, 6, 0, 0), -1);
        Due.due("nothing in both", x.shift(0, 0, 1, 0, 0), -11);
        Due.bytes(x, 0, 1, 2, 3, 4, 5);
        Due.due("nothing to go to", x.shift(0, 0, 1, 0, 0), -11);
        Due.due("nothing to come from", x.shift(1, 0, 0, 0, 0), -11);
        x.body(0);
        x.keep(1, 0);
        Due.due("-11 ahead of -12", x.shift(1, 0, 2, 0, 0), -11);
        Due.due("-11 ahead of -12", x.shift(2, 0, 1, 0, 0), -11);
        Due.due("to a smith", x.shift(0, 0, 1, 0, 0), -12);
        Due.due("from a smith", x.shift(1, 0, 0, 0, 0), -12);
        Due.due("between smiths", x.shift(1, 0, 1, 0, 0), -12);
        x.row(1, 1, 5);
        Due.due("unlike sorts", x.shift(0, 0, 1, 0, 1), -12);
        Due.due("-12 ahead of -13", x.shift(0, -1, 1, 0, 1), -12);
        Due.bytes(x, 1, 0, 0, 0);
        int max = Integer.MAX_VALUE;
        int[][] bad = {{-1, 0, 1}, {0, -1, 1}, {0, 0, -1}, {0, 0, 4}, {3, 0, 3}, {0, 1, 3}, {6, 0, 0}, {0, 4, 0},
            {max, 0, max}, {0, max, max}, {max, 0, 1}, {1, 1, max}, {0, 0, Integer.MIN_VALUE}};
        for (int[] b : bad) Due.due("a place that is not there", x.shift(0, b[0], 1, b[1], b[2]), -13);
        rowIs(x, 1, 0, 0, 0);
        Due.due("none at the ends", x.shift(0, 5, 1, 3, 0), 0);
        Due.due("two", x.shift(0, 2, 1, 1, 2), 2);
        rowIs(x, 1, 0, 3, 4);
        Due.due("upward within one row", x.shift(0, 0, 0, 1, 4), 4);
        rowIs(x, 0, 1, 1, 2, 3, 4);
        Due.due("downward within one row", x.shift(0, 1, 0, 0, 4), 4);
        rowIs(x, 0, 1, 2, 3, 4, 4);
    }

    private static void taking() {
        ColdShod x = new ColdShod();
        Due.due("taken(-1, 0)", x.taken(-1, 0), -1);
        Due.due("taken(6, 0)", x.taken(6, 0), -1);
        Due.due("taken(0, -1)", x.taken(0, -1), -1);
        Due.due("taken(0, 8)", x.taken(0, 8), -1);
        Due.due("taken of nothing", x.taken(0, 0), -11);
        x.row(0, 0, 1);
        Due.due("taken of a row", x.taken(0, 0), -12);
        int[][] above = {{0}, {1, 0}, {2, 0}, {3, 2, 0}, {4, 1, 0}, {5, 3, 2, 0}, {6, 0}, {7, 4, 1, 0}};
        for (int kind = 0; kind < 8; kind++) {
            int smith = x.body(kind);
            x.keep(0, smith);
            for (int k = 0; k < 8; k++) {
                int want = -12;
                for (int over : above[kind]) if (over == k) want = kind;
                Due.due("a " + kind + " taken for a " + k, x.taken(0, k), want);
            }
        }
        x.row(0, 3, 1);
        Due.due("a row where a smith was", x.taken(0, 0), -12);
        x.keep(0, -1);
        Due.due("nothing where a row was", x.taken(0, 0), -11);
    }

    private static void counting() {
        ColdShod x = new ColdShod();
        Due.due("count(-1)", x.count(-1), -1);
        Due.due("count(7)", x.count(7), -1);
        x.head(0);
        x.idea(0, 0);
        x.idea(0, 0);
        for (int i = 0; i < 3; i++) x.road(1, 1);
        for (int i = 0; i < 4; i++) x.feed('1');
        for (int i = 1; i <= 5; i++) x.mend(0, 4, i);
        for (int i = 0; i < 6; i++) x.body(7);
        x.act(0, 3, 0);
        int[] want = {1, 2, 3, 4, 5, 6, 14};
        for (int what = 0; what < want.length; what++) Due.due("count(" + what + ")", x.count(what), want[what]);
        Due.due("the constants", ColdShod.BAD, -1);
        Due.due("the constants", ColdShod.NOT, -2);
        Due.due("the constants", ColdShod.FULL, -3);
        Due.due("the constants", ColdShod.STATE, -5);
        Due.due("the constants", ColdShod.VOID, -2000000000);
    }
}
