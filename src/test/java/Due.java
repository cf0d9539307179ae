/** What the project's tests share: answers held against those that are due. */
final class Due {
    private static int asked = 0;
    private static int wrong = 0;

    private Due() {
    }

    static void due(String call, long got, long want) {
        asked++;
        if (got == want) return;
        wrong++;
        if (wrong <= 50) System.out.println(call + " answered " + got + ", due is " + want);
    }

    static void holds(String what, boolean so) {
        due(what, so ? 1 : 0, 1);
    }

    static void end() {
        System.out.println(asked + " answers, " + wrong + " of them not as due");
        if (wrong != 0 || asked == 0) System.exit(1);
    }

    /** Feeds a text to THE TAPE and makes it THE LAW. */
    static int lawOf(ColdShod x, String text) {
        for (int i = 0; i < text.length(); i++) x.feed(text.charAt(i));
        return x.law();
    }

    /** A SHELF holds a ROW of bytes with these elements. */
    static void bytes(ColdShod x, int shelf, int... elements) {
        x.row(shelf, 0, elements.length);
        for (int i = 0; i < elements.length; i++) x.put(shelf, i, elements[i]);
    }
}
