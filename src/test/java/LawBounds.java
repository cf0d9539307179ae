/** The bounds of THE TAPE, of a TEXT, of its FAULT and of what it gives. */
final class LawBounds {
    /** No FAULT. */
    private static final int NONE = -1;
    private static final String STARTS = "0123456789mwhfsk!-(", JOINS = "|&<=>+-*/%";

    private LawBounds() {
    }

    static void all() {
        tapeLength();
        bytesOfTape();
        fullTexts();
        lines();
        conditions();
        looseAndTight();
        onceCompared();
        leftToRight();
        numbers();
        names();
        blanks();
        firstBytes();
        secondBytes();
        openSigns();
        openSignsClose();
        wraps();
        towardZero();
        onesAndZeros();
        allIsWorkedOut();
        whichLineCounts();
        faults();
        heldWithin();
        withoutText();
        lawOfTape();
    }

    private static void fault(String text, int place) {
        Run.begin().tells(text).due("count(3)", text.length()).due("law()", place == NONE ? 1 : -100 - place).due("count(3) 0");
    }

    /** METAL 3, SHAPE 5, WORN 20, HEAT 7 of a HEAD of FORM 1; STEEP 6, KIND 2. */
    private static Run standing() {
        return Run.begin().does("head(1) idea(3, 5) road(1, 9) mend(0, 4, 20) mend(0, 5, 7) mend(0, 8, 0) mend(0, 10, 6) "
            + "mend(0, 11, 2)");
    }

    private static void gives(String text, int want) {
        standing().law(text).due("wears(0, 0)", want);
    }

    /** What a TEXT of any worth gives, told by a sum that brings it within 0 .. 9. */
    private static void worth(String text, int want) {
        gives("(" + text + ")=(" + told(want) + ")", 1);
        gives("(" + text + ")=(" + told(want + 1) + ")", 0);
    }

    private static String told(int v) {
        if (v == Integer.MIN_VALUE) return "-2*8192*8192*16";
        String sign = v < 0 ? "-" : "";
        long left = Math.abs((long) v);
        return left < 10000 ? sign + left : sign + left / 10000 / 1000 + "*1000*1000*10" + sign(v) + left / 10000 % 1000
            + "*1000*10" + sign(v) + left % 10000;
    }

    private static String sign(int v) {
        return v < 0 ? "-" : "+";
    }

    private static String repeated(String what, int times) {
        return what.repeat(times);
    }

    private static void tapeLength() {
        Doc.says("THE LAW is a TEXT by THE TAPE (at most 120 bytes)");
        Run r = Run.begin().due("count(3) 0");
        for (int n = 1; n <= 120; n++) r.due("feed(" + (n % 2 == 1 ? '1' + 0 : '+' + 0) + ")", n).due("count(3)", n);
        r.due("feed(49) FULL  count(3) 120  feed(0) FULL  feed(255) FULL  feed(256) BAD  feed(-1) BAD  count(3) 120");
        r.due("law() -220  count(3) 0  feed(49) 1  count(3) 1  law() 1");
    }

    private static void bytesOfTape() {
        Doc.says("A byte (0 .. 255) comes to THE TAPE: how many it has. BAD, FULL (120).");
        Run.begin().due("feed(MIN) BAD  feed(-1) BAD  feed(256) BAD  feed(MAX) BAD  feed(305) BAD  count(3) 0")
            .due("feed(0) 1  feed(255) 2  feed(256) BAD  feed(-1) BAD  count(3) 2  law() -100  count(3) 0");
        for (int from = 0; from < 256; from += 64) {
            Run r = Run.begin();
            for (int letter = from; letter < from + 64; letter++) r.due("feed(" + letter + ")", letter - from + 1);
            r.due("count(3) 64");
        }
        // a byte keeps all its bits: 304 would be '0' by its lowest ones, 177 by seven of them '1'
        Run.begin().due("feed(304) BAD  feed(177) 1  law() -100");
    }

    private static void fullTexts() {
        Doc.says("THE LAW is a TEXT by THE TAPE (at most 120 bytes)");
        String ends4 = "03" + repeated("+0", 58) + "+1";
        Due.due("its length", ends4.length(), 120);
        gives(ends4, 4);
        gives(ends4.substring(0, 118), 3);
        gives("0" + repeated("+m-m", 29) + "+8", 8);
        gives(repeated("0?9;", 29) + "6", 6);
        gives(repeated("0?9;", 29) + "1?7", 7);
        gives("7" + repeated(";0", 59), 7);
        gives("((((((" + repeated("1-", 53) + "0))))))", 0);
        gives("0-((((((" + repeated("1-", 52) + "0))))))", 9);
        // the 121st byte does not come to THE TAPE, so the TEXT ends with a sign that joins
        String nested = "((((((" + repeated("1+", 53) + "0))))))";
        Due.due("its length", nested.length(), 119);
        gives(nested, 9);
        Run.begin().tells(nested + "+1").due("count(3) 120  law() -220");
    }

    private static void lines() {
        Doc.says("LINES, one or more, parted by ; .");
        fault("", 0);
        fault(";", 0);
        fault(";1", 0);
        fault("1", NONE);
        fault("1;", 2);
        fault("1;2", NONE);
        fault("1;2;", 4);
        fault("1;;2", 2);
        fault("1;2;3", NONE);
        fault(repeated("1;", 59) + "1", NONE);
        fault(repeated("1;", 60), 120);
        fault("(1;2)", 2);
        fault("1?2;3?4", NONE);
        fault("1?;2", 2);
    }

    private static void conditions() {
        Doc.says("LINE: E, or E ? E (what counts if the first is not 0).");
        fault("?", 0);
        fault("?1", 0);
        fault("1?", 2);
        fault("1?2", NONE);
        fault("1?2?3", 3);
        fault("1??2", 2);
        fault("(1?2)", 2);
        fault("1?(2?3)", 4);
        fault("1?2;3?4?5", 7);
        gives("1?5;6", 5);
        gives("0?5;6", 6);
        gives("-1?5;6", 5);
        gives("2?5;6", 5);
        gives("1?0;6", 0);
    }

    private static void looseAndTight() {
        Doc.says("E = A { | A }. A = B { & B }. B = S, or S < S, S = S, S > S. S = P { + P, - P }. P = O { * O, / O, % O }.");
        gives("1|0&0", 1);
        gives("0&0|1", 1);
        gives("1&0=0", 1);
        gives("(1&0)=0", 1);
        gives("2&2=2", 1);
        gives("(2&2)=2", 0);
        gives("3=1+2", 1);
        gives("(3=1)+2", 2);
        gives("1+2*3", 7);
        gives("(1+2)*3", 9);
        gives("9-8/2", 5);
        gives("1+5%3", 3);
        gives("2|0+5", 1);
        gives("!0*7", 7);
        gives("!(0*7)", 1);
        gives("-2+9", 7);
        gives("-(2+9)+15", 4);
        gives("!1+1", 1);
        gives("1?0|1", 1);
        gives("0|1?3;4", 3);
        for (int i = 0; i < JOINS.length(); i++) {
            fault("1" + JOINS.charAt(i) + "2", NONE);
            fault("1" + JOINS.charAt(i), 2);
            fault("(1" + JOINS.charAt(i) + ")", 3);
        }
    }

    private static void onceCompared() {
        Doc.says("B = S, or S < S, S = S, S > S.");
        for (char one : "<=>".toCharArray()) {
            for (char two : "<=>".toCharArray()) {
                fault("1" + one + "2" + two + "3", 3);
                fault("1" + one + two + "2", 2);
                fault("(1" + one + "2)" + two + "3", NONE);
                fault("1" + one + "(2" + two + "3)", NONE);
                fault("1" + one + "2&3" + two + "4", NONE);
                fault("1" + one + "2|3" + two + "4", NONE);
                fault("1" + one + "2?3" + two + "4", NONE);
                fault("1" + one + "2;3" + two + "4", NONE);
                fault("1" + one + "2+1" + two + "3", 5);
                fault("1" + one + "2*1" + two + "3", 5);
            }
        }
    }

    private static void leftToRight() {
        Doc.says("S = P { + P, - P }. P = O { * O, / O, % O }.");
        gives("9-3-2", 4);
        gives("9-3+2", 8);
        gives("20/3/2", 3);
        gives("20/3*2-7", 5);
        gives("2*20/3-8", 5);
        gives("20%7*2-5", 7);
        gives("2*20%7", 5);
        gives("100%7%3", 2);
        gives("9" + repeated("-1", 5), 4);
    }

    private static void numbers() {
        Doc.says("O = a number (1 to 4 digits), a NAME, ! O, - O, ( E ).");
        for (int digit = 0; digit <= 9; digit++) gives("" + digit, digit);
        gives("0", 0);
        gives("12-5", 7);
        gives("123-116", 7);
        gives("1234-1227", 7);
        gives("9999-9990", 9);
        gives("0007", 7);
        gives("0010-0002", 8);
        fault("", 0);
        fault("1234", NONE);
        fault("12345", 4);
        fault("00000", 4);
        fault("0000", NONE);
        fault("1+23456", 6);
        fault("1+2345", NONE);
        fault("(12345)", 5);
        fault("1?12345", 6);
        fault("1;12345", 6);
        fault("-12345", 5);
        fault("1234m", 4);
        fault("1m", 1);
        fault("m1", 1);
        fault("mm", 1);
        fault("m(1)", 1);
        fault("1(2)", 1);
        fault("(1)2", 3);
        fault("(1)(2)", 3);
        fault("()", 1);
        fault("!", 1);
        fault("-", 1);
        fault("(", 1);
        fault("1!", 1);
        fault("1!2", 1);
    }

    private static void names() {
        Doc.says("NAMES: m METAL, w WORN, h HEAT, f how far SHAPE is from FORM of its HEAD (9, if it has none), s STEEP, k KIND.");
        gives("m", 3);
        gives("w-15", 5);
        gives("h", 7);
        gives("f", 4);
        gives("s", 6);
        gives("k", 2);
        for (int form = 0; form <= 5; form++) {
            for (int shape = 0; shape <= 5; shape++) {
                Run r = Run.begin().does("head(" + form + ") idea(0, " + shape + ") road(1, 1)").law("f").due("wears(0, 0) 9");
                r.does("mend(0, 8, 0)").due("wears(0, 0)", Math.max(shape - form, form - shape));
                r.does("mend(0, 8, -1)").due("wears(0, 0) 9");
            }
        }
        Run.begin().does("idea(0, 0) road(1, 1)").law("f=9?5;f-1").due("wears(0, 0) 5").does("idea(0, 5)").due("wears(1, 0) 5");
        for (char letter = 'a'; letter <= 'z'; letter++) fault("" + letter, "mwhfsk".indexOf(letter) >= 0 ? NONE : 0);
        for (char letter = 'A'; letter <= 'Z'; letter++) fault("" + letter, 0);
    }

    private static void blanks() {
        Doc.says("No blanks.");
        for (char blank : " \t\n\r".toCharArray()) {
            fault(blank + "1", 0);
            fault("1" + blank, 1);
            fault("1" + blank + "+2", 1);
            fault("1+" + blank + "2", 2);
            fault("(" + blank + "1)", 1);
            fault("(1" + blank + ")", 2);
            fault("!" + blank + "1", 1);
            fault("1" + blank + "2", 1);
            fault("1;" + blank + "2", 2);
            fault("1?" + blank + "2", 2);
        }
    }

    private static void firstBytes() {
        Doc.says("FAULT: the place (from 0) of the first byte with which no TEXT goes on; the length, if it ends too early.");
        for (int letter = 0; letter < 256; letter++) {
            boolean starts = STARTS.indexOf(letter) >= 0, ends = starts && "!-(".indexOf(letter) < 0;
            Run.begin().due("feed(" + letter + ") 1").due("law()", ends ? 1 : starts ? -101 : -100);
            for (char ahead : "|&<=>+-*/%?;!(".toCharArray()) {
                String text = ahead == '!' || ahead == '(' ? "" + ahead : "1" + ahead;
                boolean ended = ends && ahead != '(';
                int place = ended ? NONE : starts ? text.length() + 1 : text.length();
                fault(text + (char) letter, place);
            }
        }
    }

    private static void secondBytes() {
        Doc.says("FAULT: the place (from 0) of the first byte with which no TEXT goes on; the length, if it ends too early.");
        for (int letter = 0; letter < 256; letter++) {
            boolean joins = (JOINS + "?;").indexOf(letter) >= 0, digit = letter >= '0' && letter <= '9';
            fault("1" + (char) letter, digit ? NONE : joins ? 2 : 1);
            fault("k" + (char) letter, joins ? 2 : 1);
            fault("1234" + (char) letter, joins ? 5 : 4);
            fault("(1)" + (char) letter, joins ? 4 : 3);
            fault("1<2" + (char) letter, digit ? NONE : joins && "<=>".indexOf(letter) < 0 ? 4 : 3);
            fault("1?2" + (char) letter, digit ? NONE : joins && letter != '?' ? 4 : 3);
            boolean inside = joins && letter != '?' && letter != ';' || digit || letter == ')';
            fault("(1" + (char) letter, letter == ')' ? NONE : inside ? 3 : 2);
        }
    }

    private static void openSigns() {
        Doc.says("At most 6 of ( ! - ahead of an O are open at once.");
        for (int length = 1; length <= 7; length++) {
            int all = (int) Math.round(Math.pow(3, length));
            for (int code = 0; code < all; code++) {
                StringBuilder text = new StringBuilder();
                int brackets = 0;
                for (int i = 0, left = code; i < length; i++, left /= 3) {
                    char sign = "(!-".charAt(left % 3);
                    if (sign == '(') brackets++;
                    text.append(sign);
                }
                fault(text + "1" + repeated(")", brackets), length <= 6 ? NONE : 6);
                fault("1-" + text + "m" + repeated(")", brackets) + "*2", length <= 6 ? NONE : 8);
            }
        }
    }

    private static void openSignsClose() {
        Doc.says("At most 6 of ( ! - ahead of an O are open at once.");
        fault("((((((1))))))+((((((1))))))", NONE);
        fault("!!!!!!1+!!!!!!1-------1", NONE);
        fault("!!!!!!1+!!!!!!1--------1", 22);
        fault("((((((1-1-1))))))", NONE);
        fault("((((((1--1))))))", 8);
        fault("(((((1--1)))))", NONE);
        fault("(((((1---1)))))", 8);
        fault("(((((-1)))))-!!!!!!1", NONE);
        fault("(((((-(1))))))", 6);
        fault("((((((1)+1)+!1)+!!1)+!!!1)+!!!!1)+!!!!!1", NONE);
        fault("((((((1)+!1)+!!1)+!!!1)+!!!!1)+!!!!!1)+!!!!!!1", NONE);
        fault("((((((1)+!1)+!!!1)", 15);
        fault("((((((1)+(1))+(!1))+(!!1))+(!!!1))+(!!!!1))+(!!!!!1)", NONE);
        fault("((((((1)+(1))+(!1))+(!!1))+(!!!1))+(!!!!1))+(!!!!!!1)", 50);
        fault("1?!!!!!!1;!!!!!!1?((((((1))))))", NONE);
        fault("1?!!!!!!!1", 8);
        fault("1;!!!!!!!1", 8);
    }

    private static void wraps() {
        Doc.says("Ints that wrap;");
        String least = "(8192*8192*32)";
        worth("8192*8192*16", 1 << 30);
        worth("8192*8192*32", Integer.MIN_VALUE);
        worth("8192*8192*64", 0);
        worth("8192*8192*32-1", Integer.MAX_VALUE);
        worth("8192*8192*32-1+1", Integer.MIN_VALUE);
        worth("-" + least, Integer.MIN_VALUE);
        worth(least + "/-1", Integer.MIN_VALUE);
        worth(least + "%-1", 0);
        worth(least + "-" + least, 0);
        worth("-" + least + "-1", Integer.MAX_VALUE);
        worth("9999*9999*9999", 9999 * 9999 * 9999);
        gives(least + "<0", 1);
        gives(least + "-1>0", 1);
    }

    private static void towardZero() {
        Doc.says("/ and % toward 0, by 0 they give 0;");
        worth("7/2", 3);
        worth("-7/2", -3);
        worth("7/-2", -3);
        worth("-7/-2", 3);
        worth("7%2", 1);
        worth("-7%2", -1);
        worth("7%-2", 1);
        worth("-7%-2", -1);
        worth("1/2", 0);
        worth("-1/2", 0);
        worth("-1%2", -1);
        worth("2/1", 2);
        worth("5/0", 0);
        worth("5%0", 0);
        worth("-5/0", 0);
        worth("-5%0", 0);
        worth("0/0", 0);
        worth("0%0", 0);
        worth("5/(w-w)+3", 3);
        worth("5%(1-1)*9+3", 3);
        worth("5/0/0", 0);
    }

    private static void onesAndZeros() {
        Doc.says("| & < = > ! give 1, 0;");
        int[] values = {-9999, -2, -1, 0, 1, 2, 9999};
        for (int a : values) {
            worth("!" + bracketed(a), a == 0 ? 1 : 0);
            worth("!!" + bracketed(a), a == 0 ? 0 : 1);
            for (int b : values) {
                worth(a + "|" + bracketed(b), a != 0 || b != 0 ? 1 : 0);
                worth(a + "&" + bracketed(b), a != 0 && b != 0 ? 1 : 0);
                worth(a + "<" + bracketed(b), a < b ? 1 : 0);
                worth(a + "=" + bracketed(b), a == b ? 1 : 0);
                worth(a + ">" + bracketed(b), a > b ? 1 : 0);
            }
        }
        gives("(8192*8192*32)<(8192*8192*32-1)", 1);
        gives("(8192*8192*32)>(8192*8192*32-1)", 0);
        gives("(8192*8192*32)&1", 1);
        gives("!(8192*8192*32)", 0);
    }

    private static String bracketed(int v) {
        return v < 0 ? "(" + v + ")" : "" + v;
    }

    private static void allIsWorkedOut() {
        Doc.says("all is worked out.");
        gives("1|5/0", 1);
        gives("0&5/0", 0);
        gives("5/0|1", 1);
        gives("1?4;5/0?5%0;5/0", 4);
        gives("0?5/0;4", 4);
    }

    private static void whichLineCounts() {
        Doc.says("The first LINE without a first E, or whose first E is not 0, counts; none: 0.");
        gives("3;4", 3);
        gives("0;4", 0);
        gives("0?3;4", 4);
        gives("0?3;0?4;5", 5);
        gives("0?3;1?4;5", 4);
        gives("0?3;0-1?4;5", 4);
        gives("0?3;4;1?5", 4);
        gives("0?3", 0);
        gives("0?3;0?4", 0);
        gives(repeated("0?3;", 29) + "0?4", 0);
        gives("w>20?3;w=20?4;w<20?5", 4);
        standing().law("w>20?3;w=20?4;w<20?5").due("mend(0, 4, 21) 20  wears(0, 0) 3  mend(0, 4, 19) 21  wears(0, 0) 5");
    }

    private static void faults() {
        Doc.says("FAULT: the place (from 0) of the first byte with which no TEXT goes on; the length, if it ends too early.");
        fault("@", 0);
        fault("1@", 1);
        fault("1@@", 1);
        fault("1+@+@", 2);
        fault("(1+2", 4);
        fault("(1+2))", 5);
        fault("1)", 1);
        fault(")", 0);
        fault("1?(2;3)", 4);
        for (int n = 1; n <= 60; n++) {
            String text = repeated("1+", n);
            fault(text, 2 * n);
            fault(text.substring(0, 2 * n - 1) + "@", 2 * n - 1);
            if (n < 60) fault(text + "@", 2 * n);
        }
        String full = repeated("1+", 59) + "12";
        fault(full, NONE);
        fault(full.substring(0, 119) + "(", 119);
        fault(full.substring(0, 119) + ";", 120);
        fault(repeated("1+", 59) + "1)", 119);
        fault(repeated("1+", 59) + "!(", 120);
    }

    private static void heldWithin() {
        Doc.says("It gives by how much an IDEA is WORN in a mile (held within 0 .. 9).");
        gives("0", 0);
        gives("0-1", 0);
        gives("-1", 0);
        gives("-9999", 0);
        gives("8192*8192*32", 0);
        gives("8", 8);
        gives("9", 9);
        gives("10", 9);
        gives("9999", 9);
        gives("8192*8192*32-1", 9);
        standing().law("-5").does("mend(0, 10, 0)").due("goes(0, 0) 9  of(0, 4) 20  of(0, 5) 6");
        standing().law("9999").does("mend(0, 10, 0)").due("goes(0, 0) 9  of(0, 4) 99");
        standing().law("9999").does("mend(0, 10, 0) mend(0, 9, 1)").due("goes(0, 0) 1  of(0, 4) 29");
    }

    private static void withoutText() {
        Doc.says("Without a text: 1, and k, and f by 3 (cut), less m by 2 (cut).");
        int[] byForm = {0, 0, 0, 1, 1, 1};
        for (int metal = 0; metal <= 3; metal++) {
            for (int kind = 0; kind <= 2; kind++) {
                for (int shape = 0; shape <= 5; shape++) {
                    Run r = Run.begin().does("head(0) idea(" + metal + ", " + shape + ") road(1, 1) mend(0, 11, " + kind + ")");
                    int less = metal < 2 ? 0 : 1;
                    r.due("wears(0, 0)", 1 + kind + 3 - less).does("mend(0, 8, 0)");
                    r.due("wears(0, 0)", 1 + kind + byForm[shape] - less);
                    // a FAULT is no text
                    r.tells("9;").due("law() -102").due("wears(0, 0)", 1 + kind + byForm[shape] - less);
                    r.due("law() -100").due("wears(0, 0)", 1 + kind + byForm[shape] - less);
                }
            }
        }
    }

    private static void lawOfTape() {
        Doc.says("THE TAPE becomes THE LAW: 1; -100 less its FAULT; THE TAPE is empty then.");
        standing().due("law() -100  feed(55) 1  count(3) 1  wears(0, 0) 3  law() 1  count(3) 0  wears(0, 0) 7")
            .due("law() -100  wears(0, 0) 7  feed(52) 1  feed(43) 2  law() -102  count(3) 0  wears(0, 0) 7")
            .due("feed(53) 1  law() 1  wears(0, 0) 5  feed(256) BAD  law() -100  wears(0, 0) 5  undo() 4  wears(0, 0) 5");
        // what was fed ahead of a FAULT is gone with it
        standing().due("feed(55) 1  feed(33) 2  law() -101  feed(56) 1  law() 1  wears(0, 0) 8");
    }
}
