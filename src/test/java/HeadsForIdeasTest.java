/** Promises 15 to 17: HEADS that ask, whether all is settled, YOKES and CLASH. */
public final class HeadsForIdeasTest {
    public static void main(String[] args) {
        asking();
        settling();
        yokes();
        Due.end();
    }

    private static void asking() {
        ColdShod x = new ColdShod();
        Due.due("asks(0)", x.asks(0), -1);
        x.head(2);
        Due.due("asks(-1)", x.asks(-1), -1);
        Due.due("asks(1)", x.asks(1), -1);
        Due.due("no ideas", x.asks(0), -2);
        x.idea(0, 5);
        x.idea(0, 1);
        x.idea(0, 3);
        Due.due("of like ones the lesser number", x.asks(0), 1);
        x.mend(1, 4, 1);
        Due.due("of like ones the less worn", x.asks(0), 2);
        x.mend(2, 3, 5);
        Due.due("the nearer, though more worn", x.asks(0), 1);
        x.head(1);
        Due.due("of like WILL the lesser number", x.asks(0), 1);
        Due.due("who is turned down asks the next", x.asks(1), 0);
        x.mend(1, 1, 7);
        Due.due("more WILL", x.asks(1), 1);
        Due.due("less WILL", x.asks(0), 0);
        x.head(0);
        x.head(0);
        Due.due("one more", x.asks(2), 2);
        Due.due("none is left", x.asks(3), -2);
        x.mend(3, 1, 12);
        x.mend(2, 1, 0);
        Due.due("none is left for who wants least", x.asks(2), -2);
        Due.due("most WILL", x.asks(3), 1);
        Due.due("asking alone deals nothing", x.of(1, 8), -1);
    }

    private static void settling() {
        ColdShod x = new ColdShod();
        Due.due("nothing is there", x.settled(), 1);
        x.head(0);
        Due.due("a head alone", x.settled(), 1);
        x.idea(0, 0);
        Due.due("both without any", x.settled(), 0);
        x.mend(0, 8, 0);
        Due.due("they have one another", x.settled(), 1);
        x.idea(0, 5);
        Due.due("the head would not rather", x.settled(), 1);
        x.mend(1, 8, 0);
        Due.due("two ideas of one head", x.settled(), 0);
        x.mend(0, 8, -1);
        Due.due("the head would rather have the nearer", x.settled(), 0);
        x.head(5);
        x.mend(0, 8, 0);
        x.mend(1, 8, 1);
        Due.due("each the nearest", x.settled(), 1);
        x.mend(0, 8, 1);
        x.mend(1, 8, 0);
        Due.due("crossed", x.settled(), 0);
        x.mend(0, 0, 5);
        x.mend(1, 0, 5);
        Due.due("the first has what both would rather have", x.settled(), 1);
        x.mend(1, 1, 7);
        Due.due("the second has more WILL", x.settled(), 0);
    }

    private static void yokesAre(ColdShod x, int yokes, int clash, int which) {
        Due.due("YOKES", x.yokes(0), yokes);
        Due.due("CLASH: how many", x.yokes(1), clash);
        Due.due("CLASH: which", x.yokes(2), which);
    }

    private static void yokes() {
        ColdShod x = new ColdShod();
        Due.due("yokes(-1)", x.yokes(-1), -1);
        Due.due("yokes(3)", x.yokes(3), -1);
        yokesAre(x, 0, 0, 0);
        x.idea(0, 3);
        yokesAre(x, 1, 1, 1);
        x.idea(0, 3);
        x.idea(0, 4);
        yokesAre(x, 1, 1, 1);
        x.idea(0, 2);
        yokesAre(x, 2, 2, 12);
        x.idea(0, 1);
        yokesAre(x, 2, 2, 12);
        x.idea(0, 0);
        yokesAre(x, 3, 3, 4 + 8 + 32);
        x.mend(1, 3, 5);
        yokesAre(x, 3, 3, 1 + 2 + 16);
        x.idea(0, 0);
        x.idea(0, 5);
        yokesAre(x, 3, 3, 1 + 2 + 16);
        for (int i = 0; i < 8; i++) x.mend(i, 3, 2);
        yokesAre(x, 1, 1, 1);
        x.mend(7, 3, 0);
        yokesAre(x, 2, 2, 129);
        for (int shape = 0; shape < 6; shape++) {
            for (int i = 0; i < 8; i++) x.mend(i, 3, shape);
            yokesAre(x, 1, 1, 1);
        }
    }
}
