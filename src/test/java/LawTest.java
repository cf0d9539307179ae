/** Promises 8, 9 and 10: THE TAPE, THE LAW, its FAULT, and what it gives. */
public final class LawTest {
    public static void main(String[] args) {
        tape();
        faults();
        faultKeepsLaw();
        gives();
        names();
        wearsAsItThenIs();
        Due.end();
    }

    private static void tape() {
        ColdShod x = new ColdShod();
        Due.due("feed(-1)", x.feed(-1), -1);
        Due.due("feed(256)", x.feed(256), -1);
        Due.due("nothing came", x.count(3), 0);
        Due.due("feed(0)", x.feed(0), 1);
        Due.due("no text begins so", x.law(), -100);
        for (int i = 1; i <= 120; i++) Due.due("feed", x.feed(i == 120 ? 255 : i % 2 == 1 ? '1' : '+'), i);
        Due.due("feed when full", x.feed('1'), -3);
        Due.due("BAD ahead of FULL", x.feed(256), -1);
        Due.due("count(3)", x.count(3), 120);
        Due.due("fault at the last byte", x.law(), -100 - 119);
        Due.due("it is empty then", x.count(3), 0);
        for (int i = 1; i <= 120; i++) x.feed(i % 2 == 1 ? '1' : '+');
        Due.due("a full tape that ends too early", x.law(), -100 - 120);
        for (int i = 1; i <= 119; i++) x.feed(i % 2 == 1 ? '1' : ';');
        Due.due("a full tape", x.law(), 1);
        Due.due("it is empty behind a law, too", x.count(3), 0);
    }

    private static void fault(String text, int want) {
        ColdShod x = new ColdShod();
        Due.due("law of " + text, Due.lawOf(x, text), want < 0 ? 1 : -100 - want);
        Due.due("the tape behind it", x.count(3), 0);
    }

    private static void faults() {
        int ok = -1;
        fault("", 0);
        fault(";", 0);
        fault("1;", 2);
        fault("1;;2", 2);
        fault("1;2", ok);
        fault("?1", 0);
        fault("1?", 2);
        fault("1?2", ok);
        fault("1?2?3", 3);
        fault("1?2;3?4;5", ok);
        fault("(1?2)", 2);
        fault("(1;2)", 2);
        fault("1234", ok);
        fault("12345", 4);
        fault("0000", ok);
        fault("1+00000", 6);
        fault("1 +2", 1);
        fault("1<2<3", 3);
        fault("1<2=3", 3);
        fault("1<2&3>4|5=6", ok);
        fault("(1<2)<3", ok);
        fault("1<2+3*4", ok);
        fault("1==2", 2);
        fault("1<=2", 2);
        fault("1&&2", 2);
        fault("m*w/h%f+s-k", ok);
        fault("mw", 1);
        fault("1m", 1);
        fault("m1", 1);
        fault("a", 0);
        fault("M", 0);
        fault("1+", 2);
        fault("+1", 0);
        fault("-1", ok);
        fault("1--1", ok);
        fault("1!2", 1);
        fault("!!!1", ok);
        fault("!-!-!-1", ok);
        fault("!-!-!--1", 6);
        fault("!!!!!!1", ok);
        fault("!!!!!!!1", 6);
        fault("((((((1))))))", ok);
        fault("(((((((1)))))))", 6);
        fault("((((((1)))))))", 13);
        fault("((((((-1))))))", 6);
        fault("(((((-1)))))", ok);
        fault("(!(!(!1)))+!(!(!1))", ok);
        fault("(!(!(!1)))+!(!(!(-1)))", 17);
        fault("((((((1)+(2)", 12);
        fault("(((((1)+(2)+!3)))-((4)))", ok);
        fault("((((((1-1))))))", ok);
        fault("((((((1--1))))))", 8);
        fault("(", 1);
        fault("()", 1);
        fault("(1", 2);
        fault("1)", 1);
        fault("(1))", 3);
        fault("-", 1);
        fault("1?-", 3);
        fault("1?((((((1))))))", ok);
        fault("1?!!!!!!1;!!!!!!1?1", ok);
    }

    private static void faultKeepsLaw() {
        ColdShod x = standing();
        Due.lawOf(x, "7");
        Due.due("a law", x.wears(0, 0), 7);
        Due.due("a faulty text", Due.lawOf(x, "3;5+"), -104);
        Due.due("the law as it was", x.wears(0, 0), 7);
        Due.due("no text at all", x.law(), -100);
        Due.due("the law as it was", x.wears(0, 0), 7);
        Due.lawOf(x, "5");
        Due.due("another law", x.wears(0, 0), 5);
    }

    /** METAL 3, SHAPE 5, WORN 20, HEAT 7 of a HEAD of FORM 1; STEEP 6, KIND 2. */
    private static ColdShod standing() {
        ColdShod x = new ColdShod();
        x.head(1);
        x.idea(3, 5);
        x.road(1, 9);
        x.mend(0, 4, 20);
        x.mend(0, 5, 7);
        x.mend(0, 8, 0);
        x.mend(0, 10, 6);
        x.mend(0, 11, 2);
        return x;
    }

    private static void gives(String text, int want) {
        ColdShod x = standing();
        Due.due("law of " + text, Due.lawOf(x, text), 1);
        Due.due("wears by " + text, x.wears(0, 0), want);
    }

    private static void gives() {
        gives("9", 9);
        gives("10", 9);
        gives("0-1", 0);
        gives("-1", 0);
        gives("2+3*2", 8);
        gives("(2+1)*3", 9);
        gives("9-3-2", 4);
        gives("9-(3-2)", 8);
        gives("20/3/2", 3);
        gives("20%7", 6);
        gives("20/6*3", 9);
        gives("-7/2+9", 6);
        gives("-7%4+9", 6);
        gives("5/0+4", 4);
        gives("5%0+4", 4);
        gives("!0+1", 2);
        gives("!5+1", 1);
        gives("!!5", 1);
        gives("-!0+5", 4);
        gives("--5", 5);
        gives("3<4", 1);
        gives("4<4", 0);
        gives("4>3", 1);
        gives("4>4", 0);
        gives("4=4", 1);
        gives("4=3", 0);
        gives("2|0", 1);
        gives("0|0", 0);
        gives("2&4", 1);
        gives("2&0", 0);
        gives("1&1", 1);
        gives("1|1", 1);
        gives("0&1", 0);
        gives("0&0|1", 1);
        gives("1|0&0", 1);
        gives("1+1=2", 1);
        gives("1=1+2", 0);
        gives("0?9;0?8;3", 3);
        gives("0?9;1?8;3", 8);
        gives("0?9;0?8", 0);
        gives("0;9", 0);
        gives("-2?4", 4);
        gives("1?0;5", 0);
        gives("9999*9999*9999>0", 9999 * 9999 * 9999 > 0 ? 1 : 0);
        gives("9999*9999*9999*9999%7+5", 9999 * 9999 * 9999 * 9999 % 7 + 5);
        gives("(8192*8192*32)/-1<0", 1);
        gives("(8192*8192*32)%-1+4", 4);
        gives("-(8192*8192*32)<0", 1);
    }

    private static void names() {
        gives("m", 3);
        gives("w/4", 5);
        gives("h", 7);
        gives("f", 4);
        gives("s", 6);
        gives("k", 2);
        ColdShod x = standing();
        x.mend(0, 8, -1);
        Due.lawOf(x, "f");
        Due.due("f without a head", x.wears(0, 0), 9);
    }

    private static void wearsAsItThenIs() {
        ColdShod x = standing();
        x.mend(0, 10, 0);
        Due.lawOf(x, "w<30?5;w%2");
        Due.due("nine miles", x.goes(0, 0), 9);
        Due.due("20, 25, then it holds at 30", x.of(0, 4), 30);
        x.mend(0, 4, 91);
        Due.lawOf(x, "w>95?9;2");
        Due.due("lame on the way", x.goes(0, 0), 4);
        Due.due("91, 93, 95, 97 and 99", x.of(0, 4), 99);
        x.mend(0, 4, 20);
        Due.lawOf(x, "h");
        x.mend(0, 5, 1);
        x.goes(0, 0);
        Due.due("HEAT falls behind the road alone", x.of(0, 4), 29);
        Due.due("it fell", x.of(0, 5), 0);
    }
}
