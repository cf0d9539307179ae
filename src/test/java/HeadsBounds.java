/** The bounds of HEADS for IDEAS, of YOKES, of the EDGE and of BY TURNS. */
final class HeadsBounds {
    private HeadsBounds() {
    }

    static void all() {
        nearerShapes();
        moreWill();
        nobodyIsLeft();
        asksRefused();
        withoutAny();
        twoOfOneHead();
        settledAnswers();
        together();
        yokesOfNone();
        clashes();
        yokesRefused();
        judgedLengths();
        judgedAsFarAsGone();
        judgedRefused();
        judgedShelves();
        metals();
        shapes();
        turnsOfSmith();
        turnsOfKicker();
        turnsOfLikeWorth();
        turnsRefused();
    }

    private static void nearerShapes() {
        Doc.says("HEADS for IDEAS: a HEAD would rather have the IDEA whose SHAPE is nearer to its FORM"
            + " (of like ones the less WORN, then the lesser number)");
        for (int form = 0; form <= 5; form++) {
            for (int one = 0; one <= 5; one++) {
                for (int two = 0; two <= 5; two++) {
                    int farOne = Math.abs(one - form), farTwo = Math.abs(two - form);
                    Run r = Run.begin().does("head(" + form + ") idea(0, " + one + ") idea(0, " + two + ")");
                    r.due("asks(0)", farTwo < farOne ? 1 : 0);
                    r.does("mend(0, 4, 1)").due("asks(0)", farTwo <= farOne ? 1 : 0);
                    r.does("mend(1, 4, 1)").due("asks(0)", farTwo < farOne ? 1 : 0);
                    r.does("mend(1, 4, 99)").due("asks(0)", farTwo < farOne ? 1 : 0);
                }
            }
        }
    }

    private static void moreWill() {
        Doc.says("an IDEA would rather have the HEAD of more WILL (then the lesser number).");
        for (int one = 0; one <= 12; one++) {
            for (int two = 0; two <= 12; two++) {
                Run r = Run.begin().does("head(3) head(3) idea(0, 3) mend(0, 1, " + one + ") mend(1, 1, " + two + ")");
                r.due("asks(0)", two > one ? -2 : 0).due("asks(1)", two > one ? 0 : -2);
                // nearer or not, it is WILL by which an IDEA would rather have one
                r.does("mend(0, 0, 0)").due("asks(0)", two > one ? -2 : 0).due("asks(1)", two > one ? 0 : -2);
            }
        }
    }

    private static void nobodyIsLeft() {
        Doc.says("All HEADS ask by that, one after the other turned down asks the next, till nobody is left who would be had:"
            + " which IDEA a HEAD has (NOT: none)");
        for (int heads = 0; heads <= 6; heads++) {
            for (int ideas = 0; ideas <= 8; ideas++) {
                Run r = Run.begin();
                for (int h = 0; h < heads; h++) r.does("head(2)");
                for (int d = 0; d < ideas; d++) r.does("idea(0, 2)");
                for (int h = 0; h < heads; h++) r.due("asks(" + h + ")", h < ideas ? h : -2);
                r.due("asks(" + heads + ") BAD").due("deal()", Math.min(heads, ideas)).due("settled() 1");
                for (int d = 0; d < ideas; d++) r.due("of(" + d + ", 8)", d < heads ? d : -1);
            }
        }
        // the last HEAD has most WILL: each one ahead is turned down by all who ask behind it
        Run r = Run.begin();
        for (int h = 0; h < 6; h++) r.does("head(0) mend(" + h + ", 1, " + (7 + h) + ") idea(0, " + h + ")");
        for (int h = 0; h < 6; h++) r.due("asks(" + h + ")", 5 - h);
    }

    private static void asksRefused() {
        Doc.says("Which IDEA a HEAD has, all asking. BAD; NOT.");
        Run.begin().due("asks(0) BAD").does("head(0)").due("asks(MIN) BAD  asks(-1) BAD  asks(0) NOT  asks(1) BAD  asks(MAX) BAD")
            .does("idea(0, 0)").due("asks(0) 0  asks(1) BAD").does("head(0)").due("asks(1) NOT  asks(2) BAD");
    }

    private static void withoutAny() {
        Doc.says("whether HEADS as told now are such that no HEAD and IDEA would both rather have one another"
            + " (HEADS, IDEAS without any would rather have any; two IDEAS of one HEAD: 0) (1, 0).");
        Run.begin().due("settled() 1").does("head(0)").due("settled() 1").does("head(5)").due("settled() 1");
        Run.begin().does("idea(0, 0)").due("settled() 1").does("idea(0, 5)").due("settled() 1");
        // as far as can be, and still rather than none
        Run r = Run.begin().does("head(0) idea(3, 5) mend(0, 4, 99) mend(0, 1, 0)").due("settled() 0");
        r.does("mend(0, 8, 0)").due("settled() 1").does("head(5)").due("settled() 0");
        r.does("mend(1, 1, 0)").due("settled() 1").does("mend(1, 1, 1)").due("settled() 0");
        r.does("mend(0, 8, 1)").due("settled() 1").does("mend(0, 8, -1)").due("settled() 0");
        // an IDEA without any, while the HEAD has the one that it would rather have
        r = Run.begin().does("head(2) idea(0, 2) idea(0, 3) mend(0, 8, 0)").due("settled() 1").does("mend(1, 3, 2)")
            .due("settled() 1");
        r.does("mend(0, 4, 1)").due("settled() 0").does("mend(1, 4, 1)").due("settled() 1").does("mend(1, 4, 2)")
            .due("settled() 1");
        r.does("mend(0, 8, -1) mend(1, 8, 0)").due("settled() 0").does("mend(1, 4, 0)").due("settled() 1");
    }

    private static void twoOfOneHead() {
        Doc.says("two IDEAS of one HEAD: 0) (1, 0).");
        for (int head = 0; head < 6; head++) {
            Run r = Run.begin().does("head(0) head(0) head(0) head(0) head(0) head(0)");
            for (int d = 0; d < 8; d++) r.does("idea(0, 0)");
            for (int d = 0; d < 6; d++) r.does("mend(" + d + ", 8, " + d + ")");
            r.due("settled() 1").does("mend(6, 8, " + head + ")").due("settled() 0").does("mend(6, 8, -1)").due("settled() 1");
            r.does("mend(7, 8, " + head + ")").due("settled() 0").does("mend(6, 8, " + head + ")").due("settled() 0");
            r.does("mend(6, 8, -1) mend(7, 8, -1)").due("settled() 1");
        }
        Run.begin().does("head(0) idea(0, 0) idea(0, 0) mend(0, 8, 0) mend(1, 8, 0)").due("settled() 0");
    }

    private static void settledAnswers() {
        Doc.says("Whether HEADS as told are such (1, 0).");
        Run.begin().does("head(0) head(5) idea(0, 0) idea(0, 5) mend(0, 8, 1) mend(1, 8, 0)")
            .due("settled() 0  deal() 2  settled() 1")
            .due("of(0, 8) 0  of(1, 8) 1");
    }

    private static void together() {
        Doc.says("YOKES: two IDEAS go together, if their SHAPES are no more than 1 apart: into how few YOKES all can be put so that all"
            + " in each go together; CLASH: the most IDEAS no two of which go together: how many; which (bits; of like ones the least).");
        for (int one = 0; one <= 5; one++) {
            for (int two = 0; two <= 5; two++) {
                boolean near = one - two <= 1 && two - one <= 1;
                Run.begin().does("idea(0, " + one + ") idea(3, " + two + ")").due("yokes(0)", near ? 1 : 2)
                    .due("yokes(1)", near ? 1 : 2).due("yokes(2)", near ? 1 : 3);
            }
        }
        // 0, 1, 2: no YOKE holds all three, though each goes with its neighbour
        Run.begin().does("idea(0, 1) idea(0, 0) idea(0, 2)").due("yokes(0) 2  yokes(1) 2  yokes(2) 6");
    }

    private static void yokesOfNone() {
        Doc.says("into how few YOKES all can be put so that all in each go together");
        Run.begin().due("yokes(0) 0  yokes(1) 0  yokes(2) 0").does("head(0) road(1, 1)").due("yokes(0) 0  yokes(1) 0  yokes(2) 0")
            .does("idea(0, 0)").due("yokes(0) 1  yokes(1) 1  yokes(2) 1");
        int[] most = {1, 1, 2, 2, 3, 3};
        Run r = Run.begin();
        for (int shape = 0; shape < 6; shape++) r.does("idea(0, " + shape + ")").due("yokes(0)", most[shape])
            .due("yokes(1)", most[shape]);
        r.does("idea(0, 0) idea(0, 5)").due("yokes(0) 3  yokes(1) 3  yokes(2) 21");
    }

    private static void clashes() {
        Doc.says("how many; which (bits; of like ones the least).");
        Run r = Run.begin();
        for (int d = 0; d < 8; d++) r.does("idea(0, 0)");
        r.due("yokes(0) 1  yokes(1) 1  yokes(2) 1").does("mend(7, 3, 5)").due("yokes(0) 2  yokes(1) 2  yokes(2) 129");
        r.does("mend(6, 3, 2)").due("yokes(0) 3  yokes(1) 3  yokes(2) 193").does("mend(5, 3, 3)")
            .due("yokes(0) 3  yokes(1) 3  yokes(2) 161");
        r.does("mend(4, 3, 4)").due("yokes(0) 3  yokes(1) 3  yokes(2) 81").does("mend(0, 3, 1)")
            .due("yokes(0) 3  yokes(1) 3  yokes(2) 82");
    }

    private static void yokesRefused() {
        Doc.says("YOKES (what 0), CLASH: how many (1), which (2). BAD.");
        Run.begin().due("yokes(MIN) BAD  yokes(-1) BAD  yokes(3) BAD  yokes(MAX) BAD  yokes(2) 0").does("idea(0, 0) idea(0, 4)")
            .due("yokes(-1) BAD  yokes(0) 2  yokes(1) 2  yokes(2) 3  yokes(3) BAD");
    }

    /** SHELF 0: a JOURNEY by ROADS of a mile; SHELF 1: WORN behind them, as it is due. */
    private static Run told(int roads, int worn, int length) {
        Run r = Run.begin().does("idea(0, 0) road(1, 1) row(0, 0, " + roads + ") row(1, 0, " + length + ") mend(0, 4, " + worn
            + ")").law("1");
        for (int i = 0; i < length; i++) r.due("put(1, " + i + ", " + (worn + Math.min(i, 20)) + ") 1");
        return r;
    }

    private static void judgedLengths() {
        Doc.says("EDGE: a ROW of bytes: WORN of an IDEA behind 0, 1, 2 .. ROADS of a JOURNEY in another ROW (as far as they are gone"
            + " to the end): JUDGED: the first that is not so (more than that, too); NOT.");
        for (int roads : new int[] {0, 1, 2, 19, 20, 21, 60}) {
            int most = Math.min(20, roads) + 1;
            for (int length : new int[] {0, 1, 2, 3, 20, 21, 22, 60}) {
                told(roads, 7, length).due("judge(1, 0)", length <= most ? -2 : most)
                    .due("edge(1, 0, 0)", length <= most ? 15 : 0)
                    .due("edge(1, 0, 1)", length <= most ? 63 : 0);
            }
        }
        for (int wrong = 0; wrong <= 20; wrong++) {
            Run r = told(20, 7, 21).due("judge(1, 0) NOT").due("put(1, " + wrong + ", " + (8 + wrong) + ") 1")
                .due("judge(1, 0)", wrong);
            r.due("put(1, " + wrong + ", " + (6 + wrong) + ") 1").due("judge(1, 0)", wrong).due("put(1, 20, 0) 1")
                .due("judge(1, 0)", wrong);
        }
        // bytes are held against WORN as they are, below 0 too, and keep their lowest bits
        told(1, 0, 2).due("put(1, 0, 256) 1  judge(1, 0) NOT  put(1, 0, -1) 1  judge(1, 0) 0  put(1, 0, 128) 1  judge(1, 0) 0");
    }

    private static void judgedAsFarAsGone() {
        Doc.says("(as far as they are gone to the end): JUDGED: the first that is not so (more than that, too); NOT.");
        // at WORN 99 the last ROAD is gone to its end, and behind it none
        told(5, 97, 3).due("judge(1, 0) NOT");
        told(5, 97, 4).due("put(1, 3, 99) 1  judge(1, 0) 3");
        told(5, 99, 1).due("judge(1, 0) NOT");
        told(5, 99, 2).due("put(1, 1, 99) 1  judge(1, 0) 1");
        // LAME within a ROAD: that one is not gone to its end
        told(5, 97, 3).does("mend(0, 9, 2)").due("put(1, 1, 99) 1  put(1, 2, 99) 1  judge(1, 0) 2");
        told(5, 98, 2).does("mend(0, 9, 2)").due("put(1, 1, 99) 1  judge(1, 0) 1");
        // STEEP 9 can be climbed with WORN 10, and not with 11
        told(5, 9, 3).does("mend(0, 10, 9)").due("judge(1, 0) NOT");
        told(5, 9, 4).does("mend(0, 10, 9)").due("judge(1, 0) 3");
    }

    private static void judgedRefused() {
        Doc.says("(ss: 10 times the SHELF of the JOURNEY, and that of WORN: BAD, -11, -12; the JOURNEY first)");
        Run r = Run.begin().does("idea(0, 0) body(0)");
        for (String ss : new String[] {"MIN", "-10", "-1", "6", "9", "16", "56", "59", "60", "65", "66", "100", "MAX"}) {
            r.due("judge(" + ss + ", 0) BAD  edge(" + ss + ", 0, 0) BAD");
        }
        r.due("judge(55, 0) -11  edge(55, 0, 0) -11  judge(5, 0) -11  judge(50, 0) -11");
        // SHELF 0 bytes, 1 a SMITH, 2 shorts, 3 nothing, 4 and 5 bytes
        r.does("row(0, 0, 0) keep(1, 0) row(2, 1, 0) row(4, 0, 0) row(5, 0, 0)");
        int[][] both = {{0, 0}, {-12, 1}, {-12, 2}, {-11, 3}, {0, 4}, {0, 5}};
        for (int[] journey : both) {
            for (int[] worn : both) {
                int want = journey[0] != 0 ? journey[0] : worn[0], ss = 10 * journey[1] + worn[1];
                r.due("judge(" + ss + ", 0)", want != 0 ? want : -2).due("edge(" + ss + ", 0, 0)", want != 0 ? want : 15);
                r.due("judge(" + ss + ", 1) BAD  edge(" + ss + ", 0, 2) BAD  edge(" + ss + ", -1, 1) BAD");
            }
        }
        Doc.says("JUDGED. NOT.");
        r.due("judge(45, 0) NOT  judge(45, -1) BAD  judge(45, 1) BAD  judge(45, MAX) BAD  judge(45, MIN) BAD");
        Doc.says("METALS (what 0), SHAPES (1): bits.");
        r.due("edge(45, 0, MIN) BAD  edge(45, 0, -1) BAD  edge(45, 0, 0) 15  edge(45, 0, 1) 63  edge(45, 0, 2) BAD  "
            + "edge(45, 0, MAX) BAD");
    }

    /** Each SHELF s has a JOURNEY of so many ROADS, which as WORN tells 0, 1, 2 ..; once they grow, once they shrink. */
    private static void judgedShelves() {
        Doc.says("(ss: 10 times the SHELF of the JOURNEY, and that of WORN: BAD, -11, -12; the JOURNEY first)");
        for (boolean grow : new boolean[] {true, false}) {
            Run r = Run.begin().does("idea(0, 0)").law("1");
            for (int road = 0; road < 6; road++) r.does("road(1, 1)");
            int[] lengths = new int[6];
            for (int shelf = 0; shelf < 6; shelf++) {
                lengths[shelf] = grow ? shelf + 1 : 6 - shelf;
                int[] row = new int[lengths[shelf]];
                for (int i = 0; i < row.length; i++) row[i] = i;
                r.bytes(shelf, row);
            }
            for (int journey = 0; journey < 6; journey++) {
                for (int worn = 0; worn < 6; worn++) {
                    boolean so = lengths[worn] <= lengths[journey] + 1;
                    String with = "(" + (10 * journey + worn) + ", 0";
                    r.due("judge" + with + ")", so ? -2 : lengths[journey] + 1);
                    r.due("edge" + with + ", 0)", so ? 15 : 0).due("edge" + with + ", 1)", so ? 63 : 0);
                }
            }
        }
    }

    private static void metals() {
        Doc.says("METALS: by which METALS (bits 0 .. 3) all is so.");
        for (int metal = 0; metal <= 3; metal++) {
            for (int own = 0; own <= 3; own++) {
                Run.begin().does("idea(" + own + ", 0) road(1, 1) row(0, 0, 1)").law("m").bytes(1, 0, metal)
                    .due("edge(1, 0, 0)", 1 << metal).due("judge(1, 0)", metal == own ? -2 : 1).due("of(0, 2)", own);
            }
        }
        Run.begin().does("idea(0, 0) road(1, 1) row(0, 0, 1)").law("m").bytes(1, 0, 4).due("edge(1, 0, 0) 0").bytes(1, 0, 0)
            .due("edge(1, 0, 0) 1").bytes(1, 0).due("edge(1, 0, 0) 15").bytes(1, 1).due("edge(1, 0, 0) 0").bytes(1)
            .due("edge(1, 0, 0) 15");
    }

    private static void shapes() {
        Doc.says("SHAPES: by which SHAPES (bits 0 .. 5).");
        for (int form = 0; form <= 5; form++) {
            for (int far = 0; far <= 5; far++) {
                int bits = (form - far >= 0 ? 1 << form - far : 0) | (form + far <= 5 ? 1 << form + far : 0);
                Run.begin().does("head(" + form + ") idea(0, 2) mend(0, 8, 0) road(1, 1) row(0, 0, 1)").law("f").bytes(1, 0, far)
                    .due("edge(1, 0, 1)", bits).due("of(0, 3) 2");
            }
        }
        // without a HEAD all SHAPES are as far
        Run.begin().does("idea(0, 2) road(1, 1) row(0, 0, 1)").law("f").bytes(1, 0, 9).due("edge(1, 0, 1) 63").bytes(1, 0, 5)
            .due("edge(1, 0, 1) 0");
    }

    private static void turns(int worn, int heat, int n, int want, int first) {
        Run.begin().does("idea(0, 0) mend(0, 4, " + worn + ") mend(0, 5, " + heat + ")").due("byTurns(0, " + n + ", 0)", want)
            .due("byTurns(0, " + n + ", 1)", first).due("of(0, 4)", worn).due("of(0, 5)", heat)
            .due("of(0, 7) 0  led(0) 0  led(1) 0");
    }

    private static void turnsOfSmith() {
        Doc.says("the smith does a STROKE 0 or 3, or nothing;");
        turns(50, 0, 1, 50, 4);
        turns(50, 1, 1, 40, 3);
        turns(50, 9, 1, 40, 3);
        turns(9, 1, 1, 0, 3);
        turns(1, 1, 1, 0, 3);
        turns(0, 9, 1, 0, 4);
        turns(99, 1, 1, 89, 3);
        turns(99, 0, 1, 99, 4);
        // heated, kicked or cooled, and NAILED
        turns(50, 0, 3, 47, 0);
        Run cast = Run.begin().does("idea(0, 0) mend(0, 4, 50) mend(0, 6, 1)").due("byTurns(0, 3, 0) 47  byTurns(0, 3, 1) 0");
        cast.does("mend(0, 7, 1)").due("byTurns(0, 3, 0) 57  byTurns(0, 3, 1) 4  byTurns(0, 5, 0) 64  byTurns(0, 5, 1) 4");
    }

    private static void turnsOfKicker() {
        Doc.says("the kicker makes WORN 7 more (99 at most), or HEAT 1 less (0 at least), or nothing:");
        turns(0, 0, 2, 7, 4);
        turns(91, 0, 2, 98, 4);
        turns(92, 0, 2, 99, 4);
        turns(93, 0, 2, 99, 4);
        turns(98, 0, 2, 99, 4);
        turns(99, 0, 2, 99, 4);
        turns(99, 1, 2, 96, 3);
        // two NAILS and a kick, or one NAIL and HEAT taken: of 3 HEAT two are left, of 1 none
        turns(50, 3, 3, 37, 3);
        turns(50, 2, 3, 40, 3);
        turns(50, 1, 3, 47, 0);
    }

    private static void turnsOfLikeWorth() {
        Doc.says("the smith's first (0, 3, 4 nothing; of like ones 4 first, then the least).");
        // all like: nothing first
        turns(0, 9, 1, 0, 4);
        turns(0, 0, 2, 7, 4);
        turns(0, 5, 2, 7, 4);
        // 4 and 3 like, 0 is not
        turns(0, 9, 3, 0, 4);
        // 0 and 3 like (47), nothing is not: the least
        turns(50, 1, 3, 47, 0);
    }

    private static void turnsRefused() {
        Doc.says("BY TURNS: smith and kicker, n (1 .. 5) deeds in all, the smith first:");
        Run r = Run.begin().due("byTurns(0, 1, 0) BAD").does("idea(0, 0) mend(0, 4, 50)");
        r.due("byTurns(0, MIN, 0) BAD  byTurns(0, -1, 0) BAD  byTurns(0, 0, 0) BAD  byTurns(0, 6, 0) BAD  byTurns(0, MAX, 0) "
            + "BAD");
        // with no HEAT: nothing; a kick; one NAIL for a kick; and so on
        r.due("byTurns(0, 1, 0) 50  byTurns(0, 2, 0) 57  byTurns(0, 3, 0) 47  byTurns(0, 4, 0) 54");
        r.due("byTurns(0, 5, 0)", new PlainTurns(50, 0).worth(5));
        Doc.says("BY TURNS: that (what 0), the smith's first (1). BAD.");
        r.due("byTurns(0, 1, MIN) BAD  byTurns(0, 1, -1) BAD  byTurns(0, 1, 2) BAD  byTurns(0, 1, MAX) BAD");
        r.due("byTurns(1, 1, 0) BAD  byTurns(-1, 1, 0) BAD  byTurns(1, 6, 2) BAD  byTurns(0, 0, 1) BAD  byTurns(0, 6, 1) BAD");
        for (int worn = 0; worn <= 99; worn += 9) {
            for (int heat = 0; heat <= 9; heat++) {
                Run one = Run.begin().does("idea(0, 0) mend(0, 4, " + worn + ") mend(0, 5, " + heat + ")");
                for (int n = 1; n <= 5; n++) one.due("byTurns(0, " + n + ", 0)", new PlainTurns(worn, heat).worth(n));
            }
        }
    }

    /** BY TURNS of an IDEA that is not CAST, told once more. */
    private static final class PlainTurns {
        private final int worn;
        private final int heat;

        PlainTurns(int worn, int heat) {
            this.worn = worn;
            this.heat = heat;
        }

        int worth(int n) {
            return worth(n, true);
        }

        private int worth(int n, boolean smith) {
            if (n == 0) return worn;
            int still = worth(n - 1, !smith);
            if (!smith) {
                int kicked = new PlainTurns(Math.min(99, worn + 7), heat).worth(n - 1, true);
                return Math.max(still, Math.max(kicked, new PlainTurns(worn, Math.max(0, heat - 1)).worth(n - 1, true)));
            }
            int heated = new PlainTurns(worn, Math.min(9, heat + 3)).worth(n - 1, false);
            int nailed = heat == 0 ? still : new PlainTurns(Math.max(0, worn - 10), heat - 1).worth(n - 1, false);
            return Math.min(still, Math.min(heated, nailed));
        }
    }
}
