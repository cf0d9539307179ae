import java.util.ArrayDeque;
import java.util.ArrayList;
import java.util.Collections;
import java.util.Deque;
import java.util.List;
import java.util.Random;

/** Objects that are used to their last call: each run here makes 512 calls, and what it leads to is kept count of beside it. */
public final class LongRunsTest {
    public static void main(String[] args) {
        deedsAreLed();
        changesUndone();
        lawsOneBehindTheOther();
        tapeFedToTheEnd();
        rowsOverAndOver();
        shiftedRows();
        actsOfFifty();
        imagesLaidBack();
        roadsByRowsTillFull();
        thoughtsAlter();
        thoughtsAskedAgain();
        dearestCalls();
        refusedAllAlong();
        Due.end();
    }

    private static void isSpent(Run r) {
        Due.due("calls that are left", r.left(), 0);
    }

    private static Run filled(String law) {
        Run r = Run.begin();
        for (int h = 0; h < 6; h++) r.due("head(" + h + ")", h);
        for (int d = 0; d < 8; d++) r.due("idea(" + d % 4 + ", " + d % 6 + ")", d);
        for (int i = 0; i < 12; i++) r.due("road(" + (10 * (i % 8) + (i + 1 + i / 8) % 8) + ", " + (1 + i % 9) + ")", i);
        return r.law(law);
    }

    /** STROKES and ROADS by all IDEAS: what LED tells is the sum of what they answered. */
    private static void deedsAreLed() {
        for (int seed = 0; seed < 12; seed++) {
            Random random = new Random(seed);
            Run r = filled(seed % 2 == 0 ? "3" : "w>60?2;4");
            int[] led = new int[5];
            while (r.left() > 6) {
                int idea = random.nextInt(8), road = random.nextInt(12);
                if (random.nextInt(3) > 0) {
                    led[r.ask("stroke(" + idea + ", " + random.nextInt(4) + ")") == 1 ? 0 : 1]++;
                    continue;
                }
                long miles = r.ask("goes(" + idea + ", " + road + ")");
                if (miles < 0) continue;
                led[3] += (int) miles;
                if (miles == 1 + road % 9) led[2]++;
                if (r.ask("of(" + idea + ", 4)") == 99) led[4]++;
            }
            for (int what = 0; what < 5; what++) r.due("led(" + what + ")", led[what]);
            while (r.left() > 0) r.due("led(0)", led[0]);
            isSpent(r);
        }
    }

    /** Numbers mended, undone and done again by turns, with the forty kept here once more. */
    private static void changesUndone() {
        int[] most = {5, 12, 3, 5, 99, 9, 1, 9, 5, 9, 9, 2}, many = {6, 6, 8, 8, 8, 8, 8, 8, 8, 12, 12, 12};
        for (int seed = 0; seed < 20; seed++) {
            Random random = new Random(seed);
            Run r = filled("1");
            Deque<int[]> undone = new ArrayDeque<>(), done = new ArrayDeque<>();
            while (r.left() >= 2) {
                int deed = random.nextInt(seed % 2 == 0 ? 4 : 8);
                if (deed == 0) {
                    int[] c = undone.pollLast();
                    r.due("undo()", c == null ? ColdShod.STATE : undone.size());
                    if (c == null) continue;
                    done.addLast(c);
                    r.due("of(" + c[0] + ", " + c[1] + ")", c[2]);
                } else if (deed == 1) {
                    int[] c = done.pollLast();
                    r.due("redo()", c == null ? ColdShod.STATE : done.size());
                    if (c == null) continue;
                    undone.addLast(c);
                    r.due("of(" + c[0] + ", " + c[1] + ")", c[3]);
                } else {
                    int what = random.nextInt(12), number = random.nextInt(many[what]), v = what == 9 ? 1 + random.nextInt(9) : random.nextInt(most[what] + 1);
                    int was = (int) r.ask("of(" + number + ", " + what + ")");
                    r.due("mend(" + number + ", " + what + ", " + v + ")", was);
                    if (was == v) continue;
                    undone.addLast(new int[] {number, what, was, v});
                    if (undone.size() > 40) undone.pollFirst();
                    done.clear();
                }
            }
            while (r.left() > 0) r.due("count(4)", undone.size());
            isSpent(r);
        }
    }

    /** Some hundred laws, every other one with a FAULT: the latest good one counts. */
    private static void lawsOneBehindTheOther() {
        Run r = Run.begin().does("idea(2, 3) road(1, 4) mend(0, 4, 50)").due("wears(0, 0) 3");
        for (int i = 0; r.left() >= 9; i++) {
            int v = i % 10;
            r.due("feed(" + (48 + v) + ") 1  count(3) 1  law() 1  count(3) 0").due("wears(0, 0)", v);
            r.due("feed(43) 1  law() -100").due("wears(0, 0)", v).due("journey(0, 0, 0) -11");
        }
        while (r.left() > 0) r.due("law() -100");
        isSpent(r);
    }

    private static void tapeFedToTheEnd() {
        Run r = Run.begin();
        for (int tape = 0; tape < 4; tape++) {
            for (int i = 1; i <= 120; i++) r.due("feed(" + (i % 2 == 1 ? 119 : 43) + ")", i);
            r.due("feed(119) FULL  feed(256) BAD  count(3) 120  law() -220  count(3) 0");
        }
        while (r.left() > 0) r.due("feed(-1) BAD");
        isSpent(r);
    }

    private static long cut(int sort, long v) {
        return sort == 0 ? (byte) v : sort == 1 ? (short) v : sort == 2 ? (int) v : sort == 3 ? v : v != 0 ? 1 : 0;
    }

    /** A new ROW has nothing of the one that was there, of whatever sort and length that was. */
    private static void rowsOverAndOver() {
        Random random = new Random(5);
        for (int run = 0; run < 8; run++) {
            Run r = Run.begin().does("body(4)");
            while (r.left() >= 8) {
                int shelf = random.nextInt(6), sort = random.nextInt(5), n = 1 + random.nextInt(60), at = random.nextInt(n);
                long v = random.nextLong();
                String place = "(" + shelf + ", " + at;
                r.due("row(" + shelf + ", " + sort + ", " + n + ") 1").due("element" + place + ") 0");
                r.due("put" + place + ", " + v + ") 1").due("element" + place + ")", cut(sort, v));
                r.due("put(" + shelf + ", " + n + ", 1) -13");
                if (random.nextInt(4) == 0) r.due("keep(" + shelf + ", 0) 1").due("taken(" + shelf + ", 1) 4");
                else if (random.nextInt(4) == 0) r.due("keep(" + shelf + ", -1) 1").due("taken(" + shelf + ", 1) -11");
            }
            while (r.left() > 0) r.due("count(5) 1");
            isSpent(r);
        }
    }

    /** Elements shifted to and fro between two ROWS and within each, beside Java's own arrays. */
    private static void shiftedRows() {
        for (int sort = 0; sort <= 4; sort++) {
            Random random = new Random(sort);
            long[][] rows = {new long[9], new long[6]};
            Run r = Run.begin().due("row(2, " + sort + ", 9) 1").due("row(5, " + sort + ", 6) 1");
            for (int[] one : new int[][] {{2, 9, 0}, {5, 6, 1}}) {
                for (int i = 0; i < one[1]; i++) {
                    long v = random.nextLong();
                    r.due("put(" + one[0] + ", " + i + ", " + v + ") 1");
                    rows[one[2]][i] = cut(sort, v);
                }
            }
            while (r.left() >= 16) {
                int from = random.nextInt(2), to = random.nextInt(2), i = random.nextInt(7), j = random.nextInt(7), n = random.nextInt(7);
                boolean so = i + n <= rows[from].length && j + n <= rows[to].length;
                r.due("shift(" + (from == 0 ? 2 : 5) + ", " + i + ", " + (to == 0 ? 2 : 5) + ", " + j + ", " + n + ")", so ? n : -13);
                if (so) System.arraycopy(rows[from], i, rows[to], j, n);
            }
            for (int i = 0; i < 9; i++) r.due("element(2, " + i + ")", rows[0][i]);
            for (int i = 0; i < 6; i++) r.due("element(5, " + i + ")", rows[1][i]);
            while (r.left() > 0) r.due("element(5, 6) LMIN");
            isSpent(r);
        }
    }

    /** Fifty SMITHS act by turns, each with its own number. */
    private static void actsOfFifty() {
        Run r = Run.begin();
        List<Integer> ran = new ArrayList<>();
        List<Smiths.Smith> smiths = new ArrayList<>();
        for (int i = 0; i < 50; i++) {
            r.due("body(" + i * 3 % 8 + ")", i);
            smiths.add(Smiths.make(i * 3 % 8, i, ran));
        }
        for (int i = 0; r.left() >= 3; i++) {
            int who = i * 7 % 50, act = i % 4, v = i * 1234567;
            ran.clear();
            Smiths.Smith smith = smiths.get(who);
            long want = act == 0 ? smith.heats(v) : act == 1 ? smith.draws(v) : act == 2 ? smith.nails(v) : smith.tells(v);
            r.due("act(" + who + ", " + act + ", " + v + ")", want).due("count(6)", ran.size());
            r.due("trace(" + i % ran.size() + ")", ran.get(i % ran.size()));
        }
        while (r.left() > 0) r.due("body(0) FULL");
        isSpent(r);
    }

    /** Images taken and laid back many times: the latest one alone counts. */
    private static void imagesLaidBack() {
        Run r = Run.begin().does("idea(0, 2) road(1, 3)").law("1");
        int worn = 0, miles = 0, keptWorn = 0, keptMiles = 0;
        r.due("image() 0");
        for (int i = 0; r.left() >= 8; i++) {
            r.due("goes(0, 0) 3").due("goes(0, 0) 3").due("of(0, 4)", worn + 6).due("led(3)", miles + 6);
            if (i % 9 == 4) {
                keptWorn = worn + 6;
                keptMiles = miles + 6;
                r.due("image()", keptMiles);
            }
            r.due("back()", keptMiles).due("of(0, 4)", keptWorn).due("led(3)", keptMiles);
            worn = keptWorn;
            miles = keptMiles;
        }
        while (r.left() > 0) r.due("back()", keptMiles);
        isSpent(r);
    }

    /** ROADS one by one from a ROW, and again and again behind the last. */
    private static void roadsByRowsTillFull() {
        Run r = Run.begin().does("row(3, 0, 60)");
        for (int i = 0; i < 60; i++) r.due("put(3, " + i + ", " + (i % 3 == 0 ? i / 3 % 8 : i % 3 == 1 ? (i / 3 + 3) % 8 : 1 + i / 3 % 9) + ") 1");
        for (int i = 0; i < 10; i++) r.due("roads(3, " + 3 * i + ", 1) 1").due("count(2)", i + 1);
        r.due("roads(3, 58, 12) 0  roads(3, 57, 12) 1  count(2) 11  roads(3, 30, 12) 1  count(2) 12  roads(3, 33, 12) 0");
        for (int i = 0; i < 12; i++) {
            int three = i < 10 ? i : i == 10 ? 19 : 10;
            r.due("of(" + i + ", 12)", three % 8).due("of(" + i + ", 13)", (three + 3) % 8).due("of(" + i + ", 9)", 1 + three % 9);
        }
        while (r.left() > 0) r.due("roads(3, 0, 12) 0");
        isSpent(r);
    }

    /** WORN told one more each time: what is thought of goes along with it. */
    private static void thoughtsAlter() {
        Run r = Run.begin().does("idea(0, 0) road(1, 5) road(12, 5)").law("1").bytes(0, 0, 1);
        for (int worn = 0; worn <= 99 && r.left() >= 5; worn++) {
            if (worn > 0) r.due("mend(0, 4, " + worn + ")", worn - 1);
            r.due("journey(0, 0, 0)", Math.min(10, 99 - worn)).due("way(0, 2, -1)", worn <= 89 ? worn + 10 : -2);
            r.due("of(0, 14)", 9 - worn / 11).due("strokes(0, 0, -1)", worn <= 89 ? 0 : 2);
        }
        r.due("of(0, 4) 99");
        while (r.left() > 0) r.due("journey(0, 0, 2) 99");
        isSpent(r);
    }

    private static List<String> thoughts() {
        List<String> calls = new ArrayList<>();
        for (int idea = 0; idea < 8; idea++) {
            for (int what = 0; what <= 4; what++) calls.add("journey(0, " + idea + ", " + what + ")");
            calls.add("strokes(0, " + idea + ", -1)");
            calls.add("way(" + idea + ", 5, -1)");
            calls.add("way(" + idea + ", 5, 1)");
            calls.add("reach(" + idea + ", 6)");
            calls.add("byTurns(" + idea + ", 5, 0)");
            calls.add("drawn(" + idea * 31 + ", 1040, " + idea + ", 0)");
            calls.add("edge(1, " + idea + ", 1)");
            calls.add("wears(" + idea + ", 9)");
        }
        for (int head = 0; head < 6; head++) calls.add("asks(" + head + ")");
        for (int what = 0; what <= 2; what++) calls.add("yokes(" + what + ")");
        calls.add("settled()");
        return calls;
    }

    /** What is thought of alters nothing: the same calls in other orders are answered as before. */
    private static void thoughtsAskedAgain() {
        Run r = filled("w<50?2;k+1").bytes(0, 0, 1, 2, 3, 4, 5).bytes(1, 0, 2);
        for (int d = 0; d < 8; d++) r.does("mend(" + d + ", 4, " + d * 12 + ") mend(" + d + ", 5, " + d + ")");
        r.does("mend(3, 10, 9) mend(7, 11, 2) mend(2, 1, 11)").due("deal() 6");
        List<String> calls = thoughts();
        List<Long> first = new ArrayList<>();
        for (String call : calls) first.add(r.ask(call));
        List<Integer> order = new ArrayList<>();
        for (int i = 0; i < calls.size(); i++) order.add(i);
        Collections.shuffle(order, new Random(1));
        for (int i = 0; r.left() > 0; i = (i + 1) % order.size()) r.due(calls.get(order.get(i)), first.get(order.get(i)));
        isSpent(r);
    }

    /** Calls that try the most: many ways, all STROKES in vain, long lives, deep turns. */
    private static void dearestCalls() {
        Run r = Run.begin().does("head(5) idea(0, 2) mend(0, 8, 0) mend(0, 4, 90) mend(0, 5, 9)").law("((((((w+h)*f+s)%7+k)&1)|w%2)*f)/9+w%2?0;0");
        for (int i = 0; i < 12; i++) r.does("road(" + (10 * (i / 2) + i / 2 + 1) + ", 9)");
        r.bytes(0, 0, 2, 4, 6, 8, 10, 0, 1, 2, 3, 4, 5, 6, 7, 8, 9, 10, 11, 0, 1, 12).does("mend(1, 10, 9)");
        while (r.left() >= 4) r.due("way(0, 6, -2) 6  strokes(0, 0, -1) NOT  byTurns(0, 5, 1) 3").does("drawn(7, 3040, 0, 0)");
        while (r.left() > 0) r.due("way(0, 6, 5) 10");
        isSpent(r);
    }

    /** Every other call is refused: the rest of them answer as if it had not been made. */
    private static void refusedAllAlong() {
        String[] refused = {"head(6) BAD", "idea(4, 0) BAD", "road(0, 1) BAD", "mend(0, 4, 100) VOID", "feed(256) BAD", "row(0, 5, 1) BAD",
            "row(0, 0, -1) -14", "put(0, 60, 1) -13", "goes(0, 12) BAD", "stroke(0, 4) BAD", "body(8) BAD", "keep(0, 50) BAD", "redo() STATE",
            "shift(0, 0, 3, 0, 1) -11", "journey(3, 0, 0) -11", "roads(0, 0, 13) BAD", "back() STATE", "led(5) BAD", "count(7) BAD"};
        Run r = Run.begin().does("idea(0, 0) road(1, 1) row(0, 0, 9)").law("0");
        int strokes = 0, changes = 0;
        for (int i = 0; r.left() >= 5; i++) {
            r.due(refused[i % refused.length]).due("stroke(0, 0) 1");
            strokes++;
            if (i % 3 == 0) {
                r.due(refused[(i + 7) % refused.length]).due("mend(0, 7, 0)", 1 + (i == 0 ? 0 : 2)).due("mend(0, 5, 0) " + (i == 0 ? 3 : 9));
                changes = Math.min(40, changes + 2);
            }
        }
        while (r.left() > 1) r.due("led(0)", strokes);
        r.due("count(4)", changes);
        isSpent(r);
    }
}
