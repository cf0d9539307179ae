/** Promises 1 to 7 and 10: what there is, and how it is told and mended. */
public final class HeadsIdeasRoadsTest {
    private static final int VOID = -2000000000;

    public static void main(String[] args) {
        newObject();
        heads();
        ideas();
        roadsOneByOne();
        roadsFromRows();
        mends();
        tells();
        wearsWithoutText();
        Due.end();
    }

    private static void newObject() {
        ColdShod x = new ColdShod();
        for (int what = 0; what <= 6; what++) Due.due("new: count(" + what + ")", x.count(what), 0);
        for (int what = 0; what <= 4; what++) Due.due("new: led(" + what + ")", x.led(what), 0);
        for (int shelf = 0; shelf < 6; shelf++) Due.due("new: put", x.put(shelf, 0, 1), -11);
        Due.due("new: back", x.back(), ColdShod.STATE);
        Due.due("new: undo", x.undo(), ColdShod.STATE);
        Due.due("new: redo", x.redo(), ColdShod.STATE);
        Due.due("new: law of nothing", x.law(), -100);
        ColdShod other = new ColdShod();
        x.head(0);
        Due.due("objects share nothing", other.count(0), 0);
    }

    private static void heads() {
        ColdShod x = new ColdShod();
        Due.due("head(-1)", x.head(-1), -1);
        Due.due("head(6)", x.head(6), -1);
        for (int i = 0; i < 6; i++) {
            Due.due("head", x.head(5 - i), i);
            Due.due("its FORM", x.of(i, 0), 5 - i);
            Due.due("its WILL", x.of(i, 1), 6);
        }
        Due.due("a seventh head", x.head(0), -3);
        Due.due("BAD ahead of FULL", x.head(6), -1);
        Due.due("count(0)", x.count(0), 6);
    }

    private static void ideas() {
        ColdShod x = new ColdShod();
        Due.due("idea(-1, 0)", x.idea(-1, 0), -1);
        Due.due("idea(4, 0)", x.idea(4, 0), -1);
        Due.due("idea(0, -1)", x.idea(0, -1), -1);
        Due.due("idea(0, 6)", x.idea(0, 6), -1);
        for (int i = 0; i < 8; i++) {
            Due.due("idea", x.idea(i % 4, i % 6), i);
            int[] first = {i % 4, i % 6, 0, 0, 0, 0, -1};
            for (int what = 2; what <= 8; what++) Due.due("a new idea's " + what, x.of(i, what), first[what - 2]);
            Due.due("a new idea's GRIP", x.of(i, 14), 9);
        }
        Due.due("a ninth idea", x.idea(0, 0), -3);
        Due.due("BAD ahead of FULL", x.idea(4, 0), -1);
        Due.due("count(1)", x.count(1), 8);
    }

    private static void roadsOneByOne() {
        ColdShod x = new ColdShod();
        int[] badPlaces = {-1, 0, 11, 8, 18, 80, 88, 9, 90, 77, 100, 107, -10, Integer.MAX_VALUE, Integer.MIN_VALUE};
        for (int ft : badPlaces) Due.due("road(" + ft + ", 1)", x.road(ft, 1), -1);
        Due.due("road(1, 0)", x.road(1, 0), -1);
        Due.due("road(1, 10)", x.road(1, 10), -1);
        for (int i = 0; i < 12; i++) {
            int from = i % 8, to = (i + 3) % 8;
            Due.due("road", x.road(10 * from + to, 1 + i % 9), i);
            Due.due("its FROM", x.of(i, 12), from);
            Due.due("its TO", x.of(i, 13), to);
            Due.due("its MILES", x.of(i, 9), 1 + i % 9);
            Due.due("its STEEP", x.of(i, 10), 0);
            Due.due("its KIND", x.of(i, 11), 0);
        }
        Due.due("a thirteenth road", x.road(1, 1), -3);
        Due.due("BAD ahead of FULL", x.road(0, 1), -1);
        Due.due("count(2)", x.count(2), 12);
    }

    private static void roadsFromRows() {
        ColdShod x = new ColdShod();
        Due.due("roads(-1, 0, 1)", x.roads(-1, 0, 1), -1);
        Due.due("roads(6, 0, 1)", x.roads(6, 0, 1), -1);
        Due.due("roads(0, 0, 0)", x.roads(0, 0, 0), -1);
        Due.due("roads(0, 0, 13)", x.roads(0, 0, 13), -1);
        Due.due("a row that is missing", x.roads(0, 0, 1), 0);
        x.row(0, 1, 6);
        Due.due("a row of shorts", x.roads(0, 0, 1), -12);
        x.body(0);
        x.keep(0, 0);
        Due.due("a smith", x.roads(0, 0, 1), -12);
        Due.bytes(x, 0, 0, 1, 2, 3, 4, 5, 6, 7);
        Due.due("a row that ends within a three", x.roads(0, 0, 12), 2);
        Due.due("the second's FROM", x.of(1, 12), 3);
        Due.due("the second's TO", x.of(1, 13), 4);
        Due.due("the second's MILES", x.of(1, 9), 5);
        Due.due("from place 5 on", x.roads(0, 5, 12), 1);
        Due.due("its FROM", x.of(2, 12), 5);
        Due.due("fewer than there are", x.roads(0, 0, 1), 1);
        Due.due("behind its end", x.roads(0, 8, 1), 0);
        Due.due("from place 6 on", x.roads(0, 6, 1), 0);
        Due.due("far behind its end", x.roads(0, Integer.MAX_VALUE, 1), 0);
        Due.due("count(2)", x.count(2), 4);
        int[][] bad = {{0, 0, 1}, {8, 0, 1}, {0, 8, 1}, {-1, 0, 1}, {0, -1, 1}, {0, 1, 0}, {0, 1, 10}, {0, 1, -1}};
        for (int[] three : bad) {
            Due.bytes(x, 1, 0, 1, 1, three[0], three[1], three[2], 1, 2, 3);
            int had = x.count(2);
            Due.due("a three that is not so", x.roads(1, 3, 3), 0);
            Due.due("nothing came", x.count(2), had);
        }
        Due.due("those ahead came", x.roads(1, 0, 3), 1);
        x.row(2, 0, 60);
        for (int i = 0; i < 60; i++) x.put(2, i, i % 3 + 1);
        Due.due("until FULL", x.roads(2, 0, 12), 7);
        Due.due("FULL already", x.roads(2, 0, 12), 0);
        Due.due("no change of mend()", x.count(4), 0);
        rowsFilledToTheEnd();
        placesAheadOfRows();
    }

    private static void placesAheadOfRows() {
        for (int i : new int[] {-1, -2, -3, -6, -60, Integer.MIN_VALUE, Integer.MIN_VALUE + 1}) {
            ColdShod x = new ColdShod();
            Due.due("ahead of a row that is missing", x.roads(0, i, 1), 0);
            Due.due("no such SHELF", x.roads(6, i, 1), -1);
            Due.due("no SHELF below 0", x.roads(-1, i, 1), -1);
            Due.due("n below 1", x.roads(0, i, 0), -1);
            Due.due("n above 12", x.roads(0, i, 13), -1);
            for (int sort = 1; sort <= 4; sort++) {
                x.row(1, sort, 60);
                Due.due("ahead of a row of another sort", x.roads(1, i, 1), -12);
            }
            x.body(0);
            x.keep(1, 0);
            Due.due("a smith, whatever the place", x.roads(1, i, 1), -12);
            x.keep(1, -1);
            Due.due("a smith taken away", x.roads(1, i, 1), 0);
            x.row(2, 0, 0);
            Due.due("ahead of a row of none", x.roads(2, i, 12), 0);
            Due.bytes(x, 3, 0, 1, 2, 3, 4, 5);
            Due.due("ahead of a row of bytes", x.roads(3, i, 12), 0);
            Due.due("nothing came", x.count(2), 0);
            Due.due("from its first place on", x.roads(3, 0, 12), 2);
        }
    }

    private static void rowsFilledToTheEnd() {
        ColdShod x = new ColdShod();
        x.row(0, 0, 60);
        for (int i = 0; i < 60; i++) x.put(0, i, i % 3 == 2 ? 9 : i % 3);
        Due.due("the last three", x.roads(0, 57, 12), 1);
        Due.due("9 MILES", x.of(0, 9), 9);
        Due.due("two are no three", x.roads(0, 58, 12), 0);
        Due.due("one is no three", x.roads(0, 59, 12), 0);
        Due.due("none is no three", x.roads(0, 60, 12), 0);
        Due.due("no more than n", x.roads(0, 0, 5), 5);
    }

    private static ColdShod oneOfEach() {
        ColdShod x = new ColdShod();
        x.head(2);
        x.idea(1, 3);
        x.road(1, 4);
        return x;
    }

    private static void mends() {
        int[] first = {2, 6, 1, 3, 0, 0, 0, 0, -1, 4, 0, 0};
        int[] least = {0, 0, 0, 0, 0, 0, 0, 0, -1, 1, 0, 0};
        int[] most = {5, 12, 3, 5, 99, 9, 1, 9, 0, 9, 9, 2};
        ColdShod x = oneOfEach();
        for (int what = 0; what < 12; what++) {
            String name = "mend(0, " + what;
            Due.due(name + ", too little)", x.mend(0, what, least[what] - 1), VOID);
            Due.due(name + ", too much)", x.mend(0, what, most[what] + 1), VOID);
            Due.due("nothing changed", x.of(0, what), first[what]);
            Due.due(name + ", least)", x.mend(0, what, least[what]), first[what]);
            Due.due(name + ", most)", x.mend(0, what, most[what]), least[what]);
            Due.due("it became that", x.of(0, what), most[what]);
            Due.due("no such number", x.mend(1, what, least[what]), VOID);
            Due.due("a number below 0", x.mend(-1, what, least[what]), VOID);
        }
        Due.due("mend what -1", x.mend(0, -1, 0), VOID);
        Due.due("mend what 12", x.mend(0, 12, 1), VOID);
        Due.due("mend what 13", x.mend(0, 13, 1), VOID);
        Due.due("mend what 14", x.mend(0, 14, 1), VOID);
        Due.due("mend HEAD that is not there", x.mend(0, 8, 1), VOID);
        x.head(0);
        Due.due("mend HEAD that came", x.mend(0, 8, 1), 0);
        Due.due("mend HEAD to none", x.mend(0, 8, -1), 1);
        int changes = x.count(4);
        Due.due("the same number", x.mend(0, 8, -1), -1);
        Due.due("is no change", x.count(4), changes);
    }

    private static void tells() {
        ColdShod x = oneOfEach();
        Due.due("of what -1", x.of(0, -1), VOID);
        Due.due("of what 15", x.of(0, 15), VOID);
        for (int what = 0; what <= 14; what++) {
            Due.due("of(1, " + what + ")", x.of(1, what), VOID);
            Due.due("of(-1, " + what + ")", x.of(-1, what), VOID);
        }
        int[][] grips = {{0, 9}, {10, 9}, {11, 8}, {54, 5}, {55, 4}, {98, 1}, {99, 0}};
        for (int[] grip : grips) {
            x.mend(0, 4, grip[0]);
            Due.due("GRIP by WORN " + grip[0], x.of(0, 14), grip[1]);
        }
    }

    private static void wearsWithoutText() {
        ColdShod x = oneOfEach();
        Due.due("wears(-1, 0)", x.wears(-1, 0), -1);
        Due.due("wears(1, 0)", x.wears(1, 0), -1);
        Due.due("wears(0, -1)", x.wears(0, -1), -1);
        Due.due("wears(0, 1)", x.wears(0, 1), -1);
        for (int metal = 0; metal < 4; metal++) {
            x = oneOfEach();
            for (int kind = 0; kind < 3; kind++) {
                for (int shape = 0; shape < 6; shape++) {
                    x.mend(0, 2, metal);
                    x.mend(0, 11, kind);
                    x.mend(0, 3, shape);
                    x.mend(0, 8, -1);
                    Due.due("wears without a head", x.wears(0, 0), 4 + kind - metal / 2);
                    x.mend(0, 8, 0);
                    Due.due("wears by its head", x.wears(0, 0), 1 + kind + Math.abs(shape - 2) / 3 - metal / 2);
                }
            }
        }
        x.mend(0, 4, 99);
        x.mend(0, 10, 9);
        Due.due("a lame one, a steep road", x.wears(0, 0), 1 + 2 + 1 - 1);
    }
}
