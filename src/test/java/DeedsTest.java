/** Promises 22 to 29: STROKES and ROADS in deed, dealing, LED, AN IMAGE, CHANGES undone and done again. */
public final class DeedsTest {
    public static void main(String[] args) {
        heating();
        drawing();
        nailing();
        strokeRefused();
        going();
        goingRefused();
        dealing();
        ledRefused();
        images();
        undoing();
        fortyAtMost();
        deedsAreNoChanges();
        Due.end();
    }

    private static void ideaIs(ColdShod x, int shape, int worn, int heat, int heated) {
        Due.due("SHAPE", x.of(0, 3), shape);
        Due.due("WORN", x.of(0, 4), worn);
        Due.due("HEAT", x.of(0, 5), heat);
        Due.due("HEATED", x.of(0, 7), heated);
    }

    private static void ledIs(ColdShod x, int... want) {
        for (int what = 0; what < want.length; what++) Due.due("led(" + what + ")", x.led(what), want[what]);
    }

    private static void heating() {
        ColdShod x = new ColdShod();
        x.idea(0, 2);
        for (int i = 1; i <= 9; i++) {
            Due.due("heat " + i, x.stroke(0, 0), 1);
            ideaIs(x, 2, 0, Math.min(9, 3 * i), i);
        }
        x.mend(0, 5, 8);
        Due.due("HEATED 9 stays", x.stroke(0, 0), 1);
        ideaIs(x, 2, 0, 9, 9);
        ledIs(x, 10, 0);
        Due.due("nothing changed by it", x.stroke(0, 0), 0);
        ledIs(x, 10, 1);
        x.mend(0, 6, 1);
        x.mend(0, 5, 0);
        Due.due("a cast one that was heated", x.stroke(0, 0), 0);
        ideaIs(x, 2, 0, 0, 9);
        x.mend(0, 7, 0);
        Due.due("a cast one that was not", x.stroke(0, 0), 1);
        ideaIs(x, 2, 0, 3, 1);
        Due.due("a cast one once more", x.stroke(0, 0), 0);
        ideaIs(x, 2, 0, 3, 1);
        ledIs(x, 11, 3, 0, 0, 0);
    }

    private static void drawing() {
        ColdShod x = new ColdShod();
        x.idea(0, 4);
        x.mend(0, 5, 1);
        Due.due("HEAT 1 is not enough", x.stroke(0, 1), 0);
        Due.due("HEAT 1 is not enough", x.stroke(0, 2), 0);
        ideaIs(x, 4, 0, 1, 0);
        x.mend(0, 5, 9);
        Due.due("one more", x.stroke(0, 1), 1);
        ideaIs(x, 5, 0, 7, 0);
        Due.due("SHAPE 5 has none more", x.stroke(0, 1), 0);
        ideaIs(x, 5, 0, 7, 0);
        Due.due("one less", x.stroke(0, 2), 1);
        ideaIs(x, 4, 0, 5, 0);
        x.mend(0, 3, 0);
        Due.due("SHAPE 0 has none less", x.stroke(0, 2), 0);
        ideaIs(x, 0, 0, 5, 0);
        x.mend(0, 3, 1);
        Due.due("SHAPE 1 has one less", x.stroke(0, 2), 1);
        ideaIs(x, 0, 0, 3, 0);
        x.mend(0, 5, 5);
        Due.due("one more", x.stroke(0, 1), 1);
        Due.due("one more", x.stroke(0, 1), 1);
        ideaIs(x, 2, 0, 1, 0);
        ledIs(x, 5, 4, 0, 0, 0);
    }

    private static void nailing() {
        ColdShod x = new ColdShod();
        x.idea(0, 4);
        x.mend(0, 4, 99);
        Due.due("without HEAT", x.stroke(0, 3), 0);
        ideaIs(x, 4, 99, 0, 0);
        x.mend(0, 5, 3);
        Due.due("nail", x.stroke(0, 3), 1);
        ideaIs(x, 4, 89, 2, 0);
        x.mend(0, 4, 4);
        Due.due("nail", x.stroke(0, 3), 1);
        ideaIs(x, 4, 0, 1, 0);
        Due.due("WORN 0: HEAT goes all the same", x.stroke(0, 3), 1);
        ideaIs(x, 4, 0, 0, 0);
        ledIs(x, 3, 1, 0, 0, 0);
    }

    private static void strokeRefused() {
        ColdShod x = new ColdShod();
        Due.due("stroke(0, 0)", x.stroke(0, 0), -1);
        x.idea(0, 0);
        Due.due("stroke(1, 0)", x.stroke(1, 0), -1);
        Due.due("stroke(-1, 0)", x.stroke(-1, 0), -1);
        Due.due("stroke(0, -1)", x.stroke(0, -1), -1);
        Due.due("stroke(0, 4)", x.stroke(0, 4), -1);
        ledIs(x, 0, 0, 0, 0, 0);
    }

    private static void going() {
        ColdShod x = new ColdShod();
        x.idea(0, 0);
        x.road(1, 4);
        Due.lawOf(x, "2");
        x.mend(0, 5, 1);
        Due.due("goes", x.goes(0, 0), 4);
        ideaIs(x, 0, 8, 0, 0);
        ledIs(x, 0, 0, 1, 4, 0);
        Due.due("goes", x.goes(0, 0), 4);
        ideaIs(x, 0, 16, 0, 0);
        x.mend(0, 5, 5);
        x.mend(0, 4, 94);
        Due.due("goes lame on the way", x.goes(0, 0), 3);
        ideaIs(x, 0, 99, 5, 0);
        ledIs(x, 0, 0, 2, 11, 1);
        Due.due("goes no more", x.goes(0, 0), -5);
        ledIs(x, 0, 0, 2, 11, 1);
        x.stroke(0, 3);
        x.mend(0, 4, 92);
        Due.due("goes lame at the end", x.goes(0, 0), 4);
        ideaIs(x, 0, 99, 3, 0);
        ledIs(x, 1, 0, 3, 15, 2);
        x.mend(0, 4, 33);
        x.mend(0, 10, 7);
        Due.due("cannot climb", x.goes(0, 0), -5);
        ideaIs(x, 0, 33, 3, 0);
        x.mend(0, 10, 6);
        Due.due("can climb", x.goes(0, 0), 4);
        ledIs(x, 1, 0, 4, 19, 2);
    }

    private static void goingRefused() {
        ColdShod x = new ColdShod();
        x.idea(0, 0);
        Due.due("goes without roads", x.goes(0, 0), -1);
        x.road(1, 1);
        Due.due("goes(1, 0)", x.goes(1, 0), -1);
        Due.due("goes(-1, 0)", x.goes(-1, 0), -1);
        Due.due("goes(0, 1)", x.goes(0, 1), -1);
        Due.due("goes(0, -1)", x.goes(0, -1), -1);
        x.mend(0, 4, 99);
        Due.due("BAD ahead of STATE", x.goes(0, 1), -1);
        Due.due("told lame is not gone lame", x.led(4), 0);
    }

    private static void dealing() {
        ColdShod x = new ColdShod();
        Due.due("deal of nothing", x.deal(), 0);
        x.idea(0, 5);
        x.idea(0, 1);
        x.idea(0, 3);
        Due.due("deal without heads", x.deal(), 0);
        x.head(1);
        x.head(2);
        x.mend(0, 8, 1);
        Due.due("deal", x.deal(), 2);
        Due.due("whom nobody has", x.of(0, 8), -1);
        Due.due("the first's", x.of(1, 8), 0);
        Due.due("the second's", x.of(2, 8), 1);
        Due.due("settled", x.settled(), 1);
        x.head(0);
        x.head(0);
        Due.due("more heads than ideas", x.deal(), 3);
        Due.due("the third's", x.of(0, 8), 2);
        Due.due("a deed is no change", x.count(4), 1);
    }

    private static void ledRefused() {
        ColdShod x = new ColdShod();
        Due.due("led(-1)", x.led(-1), -1);
        Due.due("led(5)", x.led(5), -1);
        Due.due("led(MIN)", x.led(Integer.MIN_VALUE), -1);
    }

    private static void images() {
        ColdShod x = new ColdShod();
        Due.due("back without an image", x.back(), -5);
        x.head(0);
        x.head(1);
        x.idea(1, 2);
        x.road(1, 5);
        x.deal();
        x.goes(0, 0);
        x.stroke(0, 3);
        Due.due("image", x.image(), 5);
        x.mend(0, 2, 3);
        x.mend(0, 6, 1);
        x.stroke(0, 0);
        x.stroke(0, 1);
        x.goes(0, 0);
        x.mend(0, 8, -1);
        x.mend(0, 9, 9);
        x.idea(2, 3);
        x.mend(1, 4, 44);
        ideaIs(x, 3, 10, 0, 1);
        ledIs(x, 2, 1, 2, 10, 0);
        Due.due("back", x.back(), 5);
        ideaIs(x, 2, 5, 0, 0);
        ledIs(x, 0, 1, 1, 5, 0);
        Due.due("HEAD is laid back", x.of(0, 8), 0);
        Due.due("METAL is not", x.of(0, 2), 3);
        Due.due("CAST is not", x.of(0, 6), 1);
        Due.due("MILES of a road are not", x.of(0, 9), 9);
        Due.due("an idea that came since", x.of(1, 4), 44);
        x.mend(0, 4, 77);
        Due.due("back once more", x.back(), 5);
        ideaIs(x, 2, 5, 0, 0);
        x.mend(0, 4, 77);
        x.image();
        x.mend(0, 4, 0);
        x.mend(1, 4, 0);
        x.back();
        Due.due("the latest image", x.of(0, 4), 77);
        Due.due("the latest image", x.of(1, 4), 44);
        Due.due("changes stay", x.count(4), 9);
    }

    private static void undoing() {
        ColdShod x = new ColdShod();
        x.idea(0, 0);
        x.mend(0, 4, 10);
        x.mend(0, 4, 20);
        x.mend(0, 4, 20);
        x.mend(0, 3, 5);
        Due.due("count(4)", x.count(4), 3);
        Due.due("redo: none", x.redo(), -5);
        Due.due("undo", x.undo(), 2);
        Due.due("SHAPE as it was", x.of(0, 3), 0);
        Due.due("undo", x.undo(), 1);
        Due.due("WORN as it was", x.of(0, 4), 10);
        Due.due("undo", x.undo(), 0);
        Due.due("WORN as it was", x.of(0, 4), 0);
        Due.due("undo: none", x.undo(), -5);
        Due.due("redo", x.redo(), 2);
        Due.due("WORN done again", x.of(0, 4), 10);
        Due.due("redo", x.redo(), 1);
        Due.due("count(4)", x.count(4), 2);
        x.mend(0, 4, 20);
        x.mend(0, 4, 100);
        Due.due("no change came behind", x.redo(), 0);
        Due.due("SHAPE done again", x.of(0, 3), 5);
        x.undo();
        x.undo();
        x.mend(0, 5, 1);
        Due.due("a change came behind", x.redo(), -5);
        Due.due("count(4)", x.count(4), 2);
        Due.due("undo", x.undo(), 1);
        Due.due("undo", x.undo(), 0);
        Due.due("WORN as it was", x.of(0, 4), 0);
    }

    private static void fortyAtMost() {
        ColdShod x = new ColdShod();
        x.idea(0, 0);
        for (int i = 1; i <= 45; i++) {
            x.mend(0, 4, i);
            Due.due("kept", x.count(4), Math.min(40, i));
        }
        for (int i = 39; i >= 0; i--) Due.due("undo", x.undo(), i);
        Due.due("no more are kept", x.undo(), -5);
        Due.due("as far as they are kept", x.of(0, 4), 5);
        for (int i = 39; i >= 0; i--) {
            Due.due("redo", x.redo(), i);
            Due.due("done again", x.of(0, 4), 45 - i);
        }
        Due.due("redo: none", x.redo(), -5);
        int[][] every = {{0, 5}, {1, 12}, {2, 3}, {3, 5}, {4, 99}, {5, 9}, {6, 1}, {7, 9}, {8, 0}, {9, 9}, {10, 9}, {11, 2}};
        x = new ColdShod();
        x.head(0);
        x.idea(0, 0);
        x.road(1, 1);
        int[] first = new int[12];
        for (int[] one : every) first[one[0]] = x.mend(0, one[0], one[1]);
        for (int i = 0; i < 12; i++) x.undo();
        for (int what = 0; what < 12; what++) Due.due("undone " + what, x.of(0, what), first[what]);
        for (int i = 0; i < 12; i++) x.redo();
        for (int[] one : every) Due.due("done again " + one[0], x.of(0, one[0]), one[1]);
        fortyOfManyIdeas();
    }

    private static void fortyOfManyIdeas() {
        ColdShod x = new ColdShod();
        for (int i = 0; i < 8; i++) x.idea(0, 0);
        for (int i = 0; i < 43; i++) x.mend(i % 8, i % 2 == 0 ? 4 : 7, 1 + i / 8);
        for (int i = 42; i >= 3; i--) {
            x.undo();
            Due.due("undone of idea " + i % 8, x.of(i % 8, i % 2 == 0 ? 4 : 7), i / 8);
        }
        Due.due("no more are kept", x.undo(), -5);
        for (int i = 3; i < 43; i++) {
            x.redo();
            Due.due("done again of idea " + i % 8, x.of(i % 8, i % 2 == 0 ? 4 : 7), 1 + i / 8);
        }
    }

    private static void deedsAreNoChanges() {
        ColdShod x = new ColdShod();
        x.idea(0, 0);
        x.road(1, 9);
        Due.lawOf(x, "1");
        x.mend(0, 4, 30);
        x.mend(0, 5, 9);
        x.undo();
        x.goes(0, 0);
        x.stroke(0, 0);
        x.image();
        x.back();
        Due.due("deeds are none", x.count(4), 1);
        Due.due("deeds take nothing from what may be done again", x.redo(), 0);
        Due.due("HEAT done again", x.of(0, 5), 9);
        x.goes(0, 0);
        x.undo();
        x.undo();
        Due.due("WORN as it was before the change", x.of(0, 4), 0);
        Due.due("led stays", x.led(3), 18);
    }
}
