import java.util.ArrayList;
import java.util.Arrays;
import java.util.List;

/** The bounds of BODIES and their ACTS, of THE TRACE, of SHELVES and ROWS, of ROADS FROM A ROW. */
final class ShelvesBounds {
    private static final String[] EDGES = {"MIN", "-2147483647", "-2", "-1", "0", "1", "2", "2147483646", "MAX"};

    private ShelvesBounds() {
    }

    static void all() {
        fiftyBodies();
        kinds();
        actsThatWrap();
        actsRefused();
        traces();
        holdNothingAtFirst();
        keeps();
        sortsAndSizes();
        lowestBits();
        puts();
        elements();
        shifts();
        shiftsRefused();
        shiftsAsTheyWere();
        takenFor();
        roadsByThrees();
        roadsEnd();
        roadsUntilFull();
        roadsRefused();
        counts();
    }

    private static void fiftyBodies() {
        Doc.says("SMITHS' ways are kept by call as BODIES 0 .. 49, of KINDS:");
        Run r = Run.begin().due("act(0, 0, 5) 0  keep(0, 0) BAD  count(5) 0");
        for (int i = 0; i < 50; i++) r.due("keep(0, " + i + ") BAD").due("body(0)", i).due("count(5)", i + 1)
            .due("keep(0, " + i + ") 1").due("act(" + i + ", 0, 0)", i);
        r.due("body(0) FULL  body(7) FULL  body(8) BAD  body(-1) BAD  count(5) 50  keep(0, 50) BAD  keep(0, 49) 1  "
            + "act(50, 0, 1) 0  act(49, 0, 1) 50");
    }

    private static void kinds() {
        Doc.says("A SMITH of a KIND (0 .. 7) is kept: its number. BAD, FULL.");
        Run r = Run.begin().due("body(MIN) BAD  body(-1) BAD  body(8) BAD  body(MAX) BAD  count(5) 0");
        for (int kind = 0; kind < 8; kind++) r.due("body(" + kind + ")", kind).due("keep(1, " + kind + ") 1")
            .due("taken(1, " + kind + ")", kind);
        r.due("body(8) BAD  count(5) 8");
    }

    private static long ofSmith(Smiths.Smith smith, int act, int x) {
        if (act == 0) return smith.heats(x);
        if (act == 1) return smith.draws(x);
        return act == 2 ? smith.nails(x) : smith.tells(x);
    }

    private static void actsThatWrap() {
        Doc.says("ACTS with x (an int that wraps): 0 heats, 1 draws, 2 nails, 3 tells; n its number.");
        List<Integer> ran = new ArrayList<>();
        for (int kind = 0; kind < 8; kind++) {
            for (int number : new int[] {0, 1, 49}) {
                Smiths.Smith smith = Smiths.make(kind, number, ran);
                Run r = Run.begin();
                for (int i = 0; i < number; i++) r.does("body(" + i % 8 + ")");
                r.due("body(" + kind + ")", number);
                for (String x : EDGES) {
                    int v = x.equals("MIN") ? Integer.MIN_VALUE : x.equals("MAX") ? Integer.MAX_VALUE : Integer.parseInt(x);
                    for (int act = 0; act <= 3; act++) {
                        ran.clear();
                        long want = ofSmith(smith, act, v);
                        r.due("act(" + number + ", " + act + ", " + x + ")", want).due("count(6)", ran.size());
                        r.due("trace(0)", ran.get(0)).due("trace(" + (ran.size() - 1) + ")", ran.get(ran.size() - 1));
                    }
                }
            }
        }
        Run.begin().does("body(0) body(0)").due("act(1, 0, MAX) MIN  act(1, 1, MAX) 0  act(1, 2, MAX) 2147483646  "
            + "act(1, 3, MAX) 0");
    }

    private static void actsRefused() {
        Doc.says("An ACT (0 .. 3) of a SMITH with x. 0, and no TRACE then: no such SMITH, ACT.");
        Run r = Run.begin().due("act(0, 0, 5) 0  count(6) 0  trace(0) BAD").does("body(0) body(7)");
        String[] none = {"(0, -1, 5)", "(0, 4, 5)", "(0, MIN, 5)", "(0, MAX, 5)", "(-1, 0, 5)", "(2, 0, 5)", "(MIN, 3, 5)",
            "(MAX, 3, 5)", "(2, 4, 5)", "(-1, -1, 5)"};
        for (String with : none) {
            r.due("act(1, 3, 5) 20  count(6) 14  trace(0) 81  trace(13) 1").due("act" + with + " 0  count(6) 0  trace(0) BAD  "
                + "trace(13) BAD");
        }
        r.due("act(0, 0, 5) 5  act(0, 3, 5) 9  count(5) 2");
    }

    private static void traces() {
        Doc.says("THE TRACE: numbers of the bodies that ran in the latest act(), as they began; the first 24 are kept.");
        Doc.says("THE TRACE's i-th body. BAD.");
        Run r = Run.begin().due("trace(0) BAD  trace(-1) BAD  count(6) 0");
        for (int kind = 0; kind < 8; kind++) r.does("body(" + kind + ")");
        List<Integer> ran = new ArrayList<>();
        int most = 0;
        for (int kind = 0; kind < 8; kind++) {
            for (int act = 0; act <= 3; act++) {
                ran.clear();
                r.due("act(" + kind + ", " + act + ", 9)", ofSmith(Smiths.make(kind, kind, ran), act, 9))
                    .due("count(6)", ran.size());
                for (int i = 0; i < ran.size(); i++) r.due("trace(" + i + ")", ran.get(i));
                r.due("trace(-1) BAD").due("trace(" + ran.size() + ") BAD");
                most = Math.max(most, ran.size());
            }
        }
        // no act runs more than 14 bodies, so THE TRACE never lacks one
        Due.due("the longest trace", most, 14);
        r = Run.begin().does("body(7)").due("act(0, 3, 1) 8  count(6) 14  trace(13) 1  trace(14) BAD  trace(23) BAD  trace(24) "
            + "BAD  trace(MIN) BAD  trace(MAX) BAD");
        r.due("act(0, 0, 1) 4  count(6) 2  trace(0) 20  trace(1) 1  trace(2) BAD  trace(13) BAD");
    }

    private static void holdNothingAtFirst() {
        Doc.says("SHELVES 0 .. 5 each hold nothing (at first), a SMITH (a BODY), or a ROW:");
        Run r = Run.begin().does("idea(0, 0)");
        for (int shelf = 0; shelf < 6; shelf++) {
            r.due("put(" + shelf + ", 0, 1) -11  element(" + shelf + ", 0) LMIN  taken(" + shelf + ", 0) -11  roads(" + shelf
                + ", 0, 1) 0");
            r.due("journey(" + shelf + ", 0, 0) -11  shift(" + shelf + ", 0, " + shelf + ", 0, 0) -11");
        }
        for (String shelf : new String[] {"MIN", "-1", "6", "MAX"}) {
            r.due("put(" + shelf + ", 0, 1) BAD  element(" + shelf + ", 0) LMIN  taken(" + shelf + ", 0) BAD  roads(" + shelf
                + ", 0, 1) BAD");
            r.due("row(" + shelf + ", 0, 1) BAD  keep(" + shelf + ", -1) BAD  shift(" + shelf + ", 0, 0, 0, 0) BAD  shift(0, 0, "
                + shelf + ", 0, 0) BAD");
        }
        // each for itself
        r.does("row(0, 0, 1) row(5, 3, 2)").due("put(0, 0, 7) 1  put(5, 0, 8) 1  put(1, 0, 1) -11  put(4, 0, 1) -11  "
            + "element(0, 0) 7  element(5, 0) 8");
    }

    private static void keeps() {
        Doc.says("A SHELF holds nothing (body -1), or a SMITH: 1. BAD.");
        Run r = Run.begin().due("keep(0, -1) 1  keep(0, 0) BAD  put(0, 0, 1) -11").does("body(2) body(3)");
        r.due("keep(0, MIN) BAD  keep(0, -2) BAD  keep(0, 2) BAD  keep(0, MAX) BAD  put(0, 0, 1) -11  keep(0, 0) 1  "
            + "taken(0, 0) 2  put(0, 0, 1) -12");
        r.due("keep(0, 2) BAD  taken(0, 0) 2  keep(0, 1) 1  taken(0, 0) 3  keep(6, 0) BAD  keep(-1, -1) BAD  keep(5, 1) 1  "
            + "taken(5, 3) 3");
        r.due("row(0, 0, 3) 1  keep(0, -2) BAD  element(0, 2) 0  keep(0, -1) 1  element(0, 2) LMIN  put(0, 2, 1) -11  "
            + "keep(0, -1) 1");
    }

    private static void sortsAndSizes() {
        Doc.says("of 0 bytes, 1 shorts, 2 ints, 3 longs, 4 booleans, of 0 .. 60 elements, 0 at first (false);");
        Doc.says("A SHELF holds a ROW: 1. BAD (sort, n above 60); -14.");
        for (int sort = 0; sort <= 4; sort++) {
            String row = "row(2, " + sort + ", ";
            Run r = Run.begin().due(row + "61) BAD  " + row + "MAX) BAD  " + row + "-1) -14  " + row + "MIN) -14  "
                + "put(2, 0, 1) -11");
            for (int n : new int[] {0, 1, 59, 60}) {
                r.due(row + n + ") 1").due("put(2, " + n + ", 1) -13  put(2, -1, 1) -13").due("element(2, " + n + ") LMIN");
                if (n > 0) r.due("element(2, " + (n - 1) + ") 0  put(2, " + (n - 1) + ", 1) 1  element(2, " + (n - 1) + ") 1");
            }
            r.due(row + "61) BAD  element(2, 59) 1  " + row + "-1) -14  element(2, 59) 1  " + row + "60) 1");
            for (int i = 0; i < 60; i++) r.due("element(2, " + i + ") 0");
            for (int i = 0; i < 60; i++) r.due("put(2, " + i + ", -1) 1");
            r.due(row + "60) 1");
            for (int i = 0; i < 60; i++) r.due("element(2, " + i + ") 0");
        }
        Run.begin().due("row(0, MIN, 1) BAD  row(0, -1, 1) BAD  row(0, 5, 1) BAD  row(0, MAX, 1) BAD  row(0, 5, -1) BAD  "
            + "row(0, -1, -1) BAD  row(0, 5, 61) BAD")
            .due("row(6, 0, -1) BAD  row(-1, 0, -1) BAD  row(0, 0, -1) -14  row(0, 4, MIN) -14  put(0, 0, 1) -11");
    }

    private static void lowestBits() {
        Doc.says("what is put in keeps its lowest bits (a boolean: whether it is not 0; 1 or 0).");
        String[] bytes = {"127 127", "128 -128", "129 -127", "255 -1", "256 0", "257 1", "-1 -1", "-128 -128", "-129 127",
            "-256 0", "LMAX -1", "LMIN 0"};
        String[] shorts = {"32767 32767", "32768 -32768", "65535 -1", "65536 0", "-32768 -32768", "-32769 32767", "128 128",
            "LMAX -1", "LMIN 0"};
        String[] ints = {"MAX MAX", "2147483648 MIN", "4294967295 -1", "4294967296 0", "MIN MIN", "-2147483649 MAX",
            "65536 65536", "LMAX -1", "LMIN 0"};
        String[] longs = {"LMAX LMAX", "LMIN LMIN", "4294967296 4294967296", "-1 -1", "0 0", "2147483648 2147483648"};
        String[] booleans = {"0 0", "1 1", "-1 1", "2 1", "256 1", "4294967296 1", "LMAX 1", "LMIN 1"};
        String[][] all = {bytes, shorts, ints, longs, booleans};
        for (int sort = 0; sort <= 4; sort++) {
            Run r = Run.begin().does("row(3, " + sort + ", 3)");
            for (String one : all[sort]) {
                String[] both = one.split(" ");
                r.due("put(3, 1, " + both[0] + ") 1  element(3, 1) " + both[1] + "  element(3, 0) 0  element(3, 2) 0");
            }
        }
    }

    private static void puts() {
        Doc.says("Element i of a ROW becomes v: 1. BAD, -11, -12, -13.");
        Run r = Run.begin().does("body(0) keep(1, 0) row(2, 3, 2) row(3, 0, 0)");
        for (String i : new String[] {"MIN", "-1", "0", "2", "MAX"}) {
            r.due("put(6, " + i + ", 1) BAD  put(-1, " + i + ", 1) BAD  put(0, " + i + ", 1) -11  put(1, " + i + ", 1) -12  "
                + "put(3, " + i + ", 1) -13");
            if (!i.equals("0")) r.due("put(2, " + i + ", 1) -13");
        }
        r.due("element(2, 0) 0  element(2, 1) 0  put(2, 0, 5) 1  put(2, 1, 6) 1  put(2, 0, 7) 1  element(2, 0) 7  "
            + "element(2, 1) 6");
    }

    private static void elements() {
        Doc.says("Element i of a ROW; Long.MIN_VALUE: BAD, -11 to -13.");
        Run r = Run.begin().does("body(0) keep(1, 0) row(2, 3, 2) row(3, 0, 0) put(2, 0, 4) put(2, 1, LMIN)");
        for (String i : new String[] {"MIN", "-1", "2", "60", "MAX"}) {
            r.due("element(6, " + i + ") LMIN  element(-1, " + i + ") LMIN  element(0, " + i + ") LMIN  element(1, " + i + ") "
                + "LMIN  element(2, " + i + ") LMIN");
        }
        r.due("element(1, 0) LMIN  element(3, 0) LMIN  element(2, 0) 4  element(2, 1) LMIN");
    }

    private static void shifts() {
        Doc.says("n elements of a ROW from i on come to another one (or the same) from j on, as they all were before: n."
            + " BAD, -11 (either), -12 (no ROWS, or of unlike sorts), -13.");
        for (int sort = 0; sort <= 4; sort++) {
            Run r = Run.begin().does("row(0, " + sort + ", 60) row(5, " + sort + ", 60)");
            for (int i = 0; i < 60; i++) r.due("put(0, " + i + ", " + i % 2 * (i + 1) + ") 1");
            r.due("shift(0, 0, 5, 0, 61) -13  element(5, 1) 0  shift(0, 0, 5, 0, 60) 60");
            for (int i = 0; i < 60; i++) r.due("element(5, " + i + ")", i % 2 == 0 ? 0 : sort == 4 ? 1 : i + 1);
            r.due("shift(0, 60, 5, 60, 0) 0  shift(0, 60, 5, 0, 0) 0  shift(0, 59, 5, 0, 1) 1")
                .due("element(5, 0)", sort == 4 ? 1 : 60);
            r.due("shift(0, 59, 5, 0, 2) -13  shift(0, 0, 5, 59, 2) -13  shift(0, 61, 5, 0, 0) -13  shift(0, 0, 5, 61, 0) -13  "
                + "shift(0, 1, 5, 59, 1) 1");
            r.due("element(5, 59)", sort == 4 ? 1 : 2);
        }
    }

    private static void shiftsRefused() {
        Doc.says("n elements of a ROW from i on come to another one (or the same) from j on, as they all were before: n."
            + " BAD, -11 (either), -12 (no ROWS, or of unlike sorts), -13.");
        // SHELF 0 nothing, 1 a SMITH, 2 bytes, 3 shorts, 4 bytes; SHELF 5 nothing
        Run r = Run.begin().does("body(0) keep(1, 0)").bytes(2, 1, 2, 3).does("row(3, 1, 3)").bytes(4, 4, 5);
        int[] held = {-11, -12, 0, 1, 0, -11};
        for (int one = 0; one < 6; one++) {
            for (int two = 0; two < 6; two++) {
                boolean nothing = held[one] == -11 || held[two] == -11;
                boolean unlike = held[one] == -12 || held[two] == -12 || held[one] != held[two];
                int want = nothing ? -11 : unlike ? -12 : -13;
                // a place that is not there besides: it is named last
                for (String with : new String[] {", -1, " + two + ", 0, 1", ", 0, " + two + ", -1, 1", ", 0, " + two + ", 0, -1",
                    ", 0, " + two + ", 0, 4"}) {
                    r.due("shift(" + one + with + ")", want);
                }
                r.due("shift(" + one + ", 0, " + two + ", 0, 0)", nothing || unlike ? want : 0);
            }
            r.due("shift(" + one + ", 0, 6, 0, 0) BAD  shift(" + one + ", 0, -1, 0, 0) BAD  shift(6, 0, " + one + ", -1, 0) BAD  "
                + "shift(-1, 0, " + one + ", 0, -1) BAD");
        }
        String[] none = {"(2, MIN, 4, 0, 1)", "(2, MAX, 4, 0, 1)", "(2, 0, 4, MIN, 1)", "(2, 0, 4, MAX, 1)", "(2, 0, 4, 0, MIN)",
            "(2, 0, 4, 0, MAX)",
            "(2, MAX, 4, 0, MAX)", "(2, 0, 4, MAX, MAX)", "(2, 1, 4, 1, MAX)", "(2, 4, 4, 0, 0)", "(2, 0, 4, 3, 0)",
                "(2, 0, 4, 0, 3)", "(4, 0, 2, 0, 3)", "(2, 2, 4, 0, 2)",
            "(2, 0, 4, 1, 2)", "(2, -1, 4, 0, 0)", "(2, 0, 4, -1, 0)", "(2, MIN, 4, MIN, MIN)"};
        for (String with : none) r.due("shift" + with + " -13");
        r.due("element(2, 0) 1  element(2, 1) 2  element(2, 2) 3  element(4, 0) 4  element(4, 1) 5  shift(2, 3, 4, 2, 0) 0  "
            + "shift(2, 1, 4, 0, 2) 2  element(4, 0) 2  element(4, 1) 3");
    }

    private static void shiftsAsTheyWere() {
        Doc.says("n elements of a ROW from i on come to another one (or the same) from j on, as they all were before: n.");
        for (int i = 0; i <= 6; i++) {
            for (int j = 0; j <= 6; j++) {
                for (int n = 0; n <= 7; n++) {
                    Run r = Run.begin().bytes(0, 10, 11, 12, 13, 14, 15);
                    boolean good = i + n <= 6 && j + n <= 6;
                    r.due("shift(0, " + i + ", 0, " + j + ", " + n + ")", good ? n : -13);
                    for (int at = 0; at < 6; at++) r.due("element(0, " + at + ")", good && at >= j && at < j + n ? 10 + at - j
                        + i : 10 + at);
                }
            }
        }
    }

    private static void takenFor() {
        Doc.says("What a SHELF holds, taken for a SMITH of KIND k (0 .. 7), or under it: its KIND. BAD, -11, -12.");
        String[] under = {"0", "1 0", "2 0", "3 2 0", "4 1 0", "5 3 2 0", "6 0", "7 4 1 0"};
        Run r = Run.begin().does("row(1, 0, 1)");
        for (String k : new String[] {"MIN", "-1", "8", "MAX"}) r.due("taken(0, " + k + ") BAD  taken(1, " + k + ") BAD  "
            + "taken(6, " + k + ") BAD");
        for (int k = 0; k < 8; k++) r.due("taken(0, " + k + ") -11  taken(1, " + k + ") -12  taken(6, " + k + ") BAD  taken(-1, "
            + k + ") BAD");
        for (int kind = 0; kind < 8; kind++) {
            r.does("body(" + kind + ") keep(2, " + kind + ")").due("taken(2, 8) BAD  taken(2, -1) BAD");
            for (int k = 0; k < 8; k++) r.due("taken(2, " + k + ")", under[kind].indexOf('0' + k) >= 0 ? kind : -12);
        }
        for (int sort = 0; sort <= 4; sort++) r.does("row(2, " + sort + ", 0)").due("taken(2, 0) -12");
    }

    private static void roadsByThrees() {
        Doc.says("ROADS FROM A ROW of bytes, from a place on: by threes FROM, TO, MILES: n of them; it ends where the row is missing,"
            + " ends (within a three, too), one is not so, or ROADS are FULL: those ahead came.");
        for (int length = 0; length <= 9; length++) {
            for (int i = 0; i <= 10; i++) {
                for (int n = 1; n <= 4; n++) {
                    // from any place on each three of these is as said
                    Run r = Run.begin().bytes(0, Arrays.copyOf(new int[] {1, 2, 3, 4, 5, 6, 7, 1, 2}, length));
                    int came = Math.min(n, Math.max(0, length - i) / 3);
                    r.due("roads(0, " + i + ", " + n + ")", came).due("count(2)", came);
                }
            }
        }
    }

    private static void roadsEnd() {
        Doc.says("it ends where the row is missing, ends (within a three, too), one is not so, or ROADS are FULL: those ahead came.");
        Run r = Run.begin().due("roads(0, 0, 12) 0  roads(0, -1, 12) 0  roads(0, MAX, 12) 0  roads(0, MIN, 1) 0")
            .does("row(0, 0, 0)").due("roads(0, 0, 12) 0");
        r.bytes(0, 0, 7, 1, 7, 0, 9).due("roads(0, 6, 1) 0  roads(0, 5, 1) 0  roads(0, 4, 1) 0  roads(0, 60, 1) 0  "
            + "roads(0, MAX, 1) 0  roads(0, 2147483645, 2) 0  roads(0, -1, 2) 0");
        r.due("roads(0, -3, 2) 0  roads(0, MIN, 2) 0  count(2) 0  roads(0, 3, 12) 1  roads(0, 0, 1) 1  roads(0, 0, 12) 2  "
            + "count(2) 4");
        r.due("of(0, 12) 7  of(0, 13) 0  of(0, 9) 9  of(1, 12) 0  of(1, 13) 7  of(1, 9) 1  of(3, 10) 0  of(3, 11) 0");
        int[][] notSo = {{-1, 0, 1}, {8, 0, 1}, {0, -1, 1}, {0, 8, 1}, {0, 0, 1}, {7, 7, 1}, {0, 1, 0},
            {0, 1, 10}, {0, 1, -1}, {-128, 1, 1}, {1, 127, 1}, {1, 0, 127}, {1, 0, -128}};
        for (int[] three : notSo) {
            Run one = Run.begin().bytes(1, 0, 1, 9, three[0], three[1], three[2], 1, 0, 1);
            one.due("roads(1, 3, 12) 0  count(2) 0  roads(1, 0, 12) 1  count(2) 1  of(0, 9) 9  of(1, 9) VOID  roads(1, 6, 12) 1  "
                + "count(2) 2");
        }
        Run full = Run.begin().does("row(2, 0, 60) put(2, 57, 1) put(2, 58, 2) put(2, 59, 3)");
        full.due("roads(2, 60, 1) 0  roads(2, 59, 1) 0  roads(2, 58, 1) 0  count(2) 0  roads(2, 57, 12) 1  of(0, 9) 3");
        // what is not so by its lowest bits alone is so
        Run.begin().bytes(1, 256, 257, 265).due("roads(1, 0, 1) 1  of(0, 12) 0  of(0, 13) 1  of(0, 9) 9");
    }

    private static void roadsUntilFull() {
        Doc.says("or ROADS are FULL: those ahead came.");
        for (int had : new int[] {0, 1, 10, 11, 12}) {
            Run r = Run.begin();
            for (int i = 0; i < had; i++) r.does("road(1, 1)");
            r.does("row(0, 0, 60)");
            for (int i = 0; i < 60; i += 3) r.due("put(0, " + i + ", 3) 1").due("put(0, " + (i + 1) + ", 4) 1")
                .due("put(0, " + (i + 2) + ", 5) 1");
            r.due("roads(0, 0, 12)", 12 - had).due("count(2) 12  roads(0, 0, 12) 0  roads(0, 57, 1) 0  road(1, 1) FULL");
            for (int i = 0; i < 12; i++) r.due("of(" + i + ", 12)", i < had ? 0 : 3).due("of(" + i + ", 9)", i < had ? 1 : 5);
        }
    }

    private static void roadsRefused() {
        Doc.says("ROADS FROM A ROW on a SHELF, from place i on, n (1 .. 12) of them: how many came. BAD, -12 (no ROW of bytes;"
            + " a SHELF that holds nothing is missing).");
        Run r = Run.begin().does("body(0) keep(1, 0) row(2, 1, 60)").bytes(3, 1, 2, 3);
        for (int shelf = 0; shelf < 6; shelf++) {
            for (String n : new String[] {"MIN", "-1", "0", "13", "MAX"}) r.due("roads(" + shelf + ", 0, " + n + ") BAD  roads("
                + shelf + ", -1, " + n + ") BAD");
        }
        for (String shelf : new String[] {"MIN", "-1", "6", "MAX"}) r.due("roads(" + shelf + ", 0, 1) BAD  roads(" + shelf
            + ", 0, 0) BAD");
        for (String i : new String[] {"MIN", "-1", "0", "60", "MAX"}) r.due("roads(0, " + i + ", 1) 0  roads(1, " + i
            + ", 1) -12  roads(2, " + i + ", 12) -12");
        for (int sort = 1; sort <= 4; sort++) r.does("row(4, " + sort + ", 3)").due("roads(4, 0, 1) -12");
        r.due("count(2) 0  roads(3, 0, 12) 1  roads(3, 0, 1) 1  count(2) 2");
        // -12 even where no ROAD could come any more
        for (int i = 0; i < 10; i++) r.does("road(1, 1)");
        r.due("roads(1, 0, 1) -12  roads(2, 0, 12) -12  roads(0, 0, 1) 0  roads(3, 0, 1) 0  roads(3, 0, 13) BAD");
    }

    private static void counts() {
        Doc.says("How many: 0 HEADS, 1 IDEAS, 2 ROADS, 3 bytes on THE TAPE, 4 changes that may be UNDONE, 5 BODIES, 6 bodies that ran"
            + " in the latest act(). BAD.");
        Run r = Run.begin().due("count(MIN) BAD  count(-1) BAD  count(7) BAD  count(MAX) BAD");
        for (int what = 0; what <= 6; what++) r.due("count(" + what + ") 0");
        r.does("head(0) idea(0, 0) idea(0, 0) road(1, 1) road(1, 1) road(1, 1) feed(1) feed(1) feed(1) feed(1)");
        r.does("mend(0, 4, 1) mend(0, 4, 2) mend(0, 4, 3) mend(0, 4, 4) mend(0, 4, 5) body(5) body(5) body(5) body(5) body(5) "
            + "body(5)").ask("act(0, 3, 0)");
        r.due("count(0) 1  count(1) 2  count(2) 3  count(3) 4  count(4) 5  count(5) 6  count(6) 8  count(7) BAD  count(-1) BAD");
    }
}
