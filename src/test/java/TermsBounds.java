/** The bounds that "Terms" names of HEADS, IDEAS and ROADS, of going, of STROKES and of a JOURNEY. */
final class TermsBounds {
    private static final String ONE_OF_EACH = "head(0) idea(0, 0) road(1, 1)";

    private TermsBounds() {
    }

    static void all() {
        forms();
        wills();
        ideaNumbers();
        metalsAndShapes();
        wornHeatCastHeated();
        headsOfIdeas();
        roadNumbers();
        places();
        bothWays();
        milesSteepKind();
        grip();
        climbs();
        wornByMiles();
        lame();
        heatBehindRoads();
        heats();
        heatedStays();
        castOnes();
        draws();
        nails();
        journeyLengths();
        journeyEnds();
        journeyNeedNotJoin();
    }

    private static void forms() {
        Doc.says("5, as they come: FORM (0 .. 5: the SHAPE that fits)");
        Run.begin().due("head(-1) BAD  head(6) BAD  head(MIN) BAD  head(MAX) BAD  count(0) 0  of(0, 0) VOID")
            .due("head(0) 0  head(5) 1  head(1) 2  head(2) 3  head(3) 4  count(0) 5")
            .due("asks(4) NOT  asks(5) BAD  head(4) 5  asks(5) NOT  asks(6) BAD  asks(-1) BAD  count(0) 6")
            .due("of(0, 0) 0  of(1, 0) 5  of(2, 0) 1  of(3, 0) 2  of(4, 0) 3  of(5, 0) 4  of(6, 0) VOID  of(-1, 0) VOID");
        mendedWithin(0, 0, 5, 0);
    }

    private static void wills() {
        Doc.says("WILL (0 .. 12; 6 at first).");
        Run r = Run.begin();
        for (int h = 0; h < 6; h++) r.due("head(" + h + ")", h).due("of(" + h + ", 1)", 6);
        r.due("of(6, 1) VOID  of(-1, 1) VOID");
        mendedWithin(1, 0, 12, 6);
    }

    /** Of the first of its kind: too little, too much, then each value that it may be. */
    private static void mendedWithin(int what, int least, int most, int first) {
        String mend = "mend(0, " + what + ", ", of = "of(0, " + what + ")";
        Run r = Run.begin().does(ONE_OF_EACH).due(of, first);
        String[] bad = {"MIN", "" + (least - 1), "" + (most + 1), "MAX"};
        for (String v : bad) r.due(mend + v + ")", ColdShod.VOID).due(of, first).due("count(4) 0");
        int was = first, changes = 0;
        for (int v = least; v <= most; v++) {
            r.due(mend + v + ")", was).due(of, v);
            if (v != was) changes++;
            was = v;
        }
        r.due("count(4)", Math.min(40, changes));
        r.due(mend + least + ")", most).due(of, least).due(mend + most + ")", least).due(of, most);
        for (String v : bad) r.due(mend + v + ")", ColdShod.VOID).due(of, most);
        for (String number : new String[] {"-1", "1", "MIN", "MAX"}) {
            r.due("mend(" + number + ", " + what + ", " + most + ")", ColdShod.VOID);
            r.due("of(" + number + ", " + what + ")", ColdShod.VOID);
        }
    }

    private static void ideaNumbers() {
        Doc.says("IDEAS 0 .. 7, as they come:");
        Run r = Run.begin().does("road(1, 1) row(0, 0, 1) row(1, 0, 0)").due("count(1) 0");
        for (int d = 0; d < 8; d++) {
            numbersOfIdea(r, d, true);
            r.due("idea(" + d % 4 + ", " + d % 6 + ")", d).due("count(1)", d + 1);
        }
        Run full = Run.begin().does("road(1, 1) row(0, 0, 1) row(1, 0, 0)");
        for (int d = 0; d < 8; d++) full.due("idea(0, 0)", d);
        for (int d = 0; d < 8; d++) numbersOfIdea(full, d, false);
        numbersOfIdea(full, 8, true);
        numbersOfIdea(full, -1, true);
        numbersOfIdea(full, Integer.MAX_VALUE, true);
        numbersOfIdea(full, Integer.MIN_VALUE, true);
        full.due("idea(3, 5) FULL  count(1) 8");
    }

    private static void numbersOfIdea(Run r, int d, boolean none) {
        r.due("wears(" + d + ", 0)", none ? -1 : 4).due("journey(0, " + d + ", 0)", none ? -1 : 1);
        r.due("strokes(0, " + d + ", -1)", none ? -1 : 0).due("way(" + d + ", 1, -2)", none ? -1 : 1);
        r.due("reach(" + d + ", 0)", none ? -1 : 3).due("judge(1, " + d + ")", none ? -1 : -2);
        r.due("edge(1, " + d + ", 0)", none ? -1 : 15).due("byTurns(" + d + ", 1, 0)", none ? -1 : 0);
        r.due("drawn(0, 101, " + d + ", 0)", none ? -1 : 1).due("stroke(" + d + ", 1)", none ? -1 : 0);
        r.due("goes(" + d + ", 0)", none ? -1 : 1).due("of(" + d + ", 14)", none ? ColdShod.VOID : 9);
        r.due("mend(" + d + ", 4, 0)", none ? ColdShod.VOID : 4);
    }

    private static void metalsAndShapes() {
        Doc.says("METAL (0 .. 3), SHAPE (0 .. 5)");
        for (String metal : new String[] {"MIN", "-1", "4", "MAX"}) {
            Run.begin().due("idea(" + metal + ", 0) BAD  idea(" + metal + ", 5) BAD  count(1) 0");
            for (String shape : new String[] {"MIN", "-1", "6", "MAX"}) {
                Run.begin().due("idea(" + metal + ", " + shape + ") BAD  idea(0, " + shape + ") BAD  idea(3, " + shape + ") BAD  "
                    + "count(1) 0");
            }
        }
        Run.begin().due("idea(0, 0) 0  idea(3, 0) 1  idea(0, 5) 2  idea(3, 5) 3  of(0, 2) 0  of(0, 3) 0  of(1, 2) 3  of(1, 3) 0")
            .due("of(2, 2) 0  of(2, 3) 5  of(3, 2) 3  of(3, 3) 5");
        mendedWithin(2, 0, 3, 0);
        mendedWithin(3, 0, 5, 0);
    }

    private static void wornHeatCastHeated() {
        Doc.says("WORN (0 .. 99; 0 at first)");
        mendedWithin(4, 0, 99, 0);
        Doc.says("HEAT (0 .. 9; 0 at first)");
        mendedWithin(5, 0, 9, 0);
        Doc.says("CAST (0, 1; 0 at first)");
        mendedWithin(6, 0, 1, 0);
        Doc.says("HEATED (0 .. 9: how often; 0 at first)");
        mendedWithin(7, 0, 9, 0);
        Run r = Run.begin();
        for (int d = 0; d < 8; d++) {
            r.due("idea(3, 5)", d);
            for (int what = 4; what <= 7; what++) r.due("of(" + d + ", " + what + ")", 0);
        }
    }

    private static void headsOfIdeas() {
        Doc.says("HEAD (-1, or a HEAD that is there; -1 at first)");
        Run r = Run.begin().does("idea(0, 0)").due("of(0, 8) -1  mend(0, 8, -1) -1  mend(0, 8, -2) VOID  mend(0, 8, 0) VOID");
        for (int heads = 1; heads <= 6; heads++) {
            r.due("head(0)", heads - 1).due("mend(0, 8, " + heads + ")", ColdShod.VOID);
            r.due("mend(0, 8, " + (heads - 1) + ")", heads - 2).due("of(0, 8)", heads - 1);
            r.due("mend(0, 8, -2) VOID  mend(0, 8, MIN) VOID  mend(0, 8, MAX) VOID").due("of(0, 8)", heads - 1);
        }
        r.due("mend(0, 8, 6) VOID  mend(0, 8, -1) 5  of(0, 8) -1  count(4) 7");
    }

    private static void roadNumbers() {
        Doc.says("ROADS 0 .. 11, as they come:");
        Run r = Run.begin().does("idea(0, 0)").law("0");
        for (int road = 0; road < 12; road++) {
            numbersOfRoad(r, road, true);
            r.due("road(" + (10 * (road % 8) + (road + 1) % 8) + ", 9)", road).due("count(2)", road + 1);
        }
        for (int road = 0; road < 12; road++) numbersOfRoad(r, road, false);
        for (int road : new int[] {-1, 12, Integer.MIN_VALUE, Integer.MAX_VALUE}) numbersOfRoad(r, road, true);
        r.due("road(1, 1) FULL  road(76, 9) FULL  count(2) 12");
    }

    private static void numbersOfRoad(Run r, int road, boolean none) {
        int from = road % 8, to = (road + 1) % 8;
        r.due("wears(0, " + road + ")", none ? -1 : 0).due("goes(0, " + road + ")", none ? -1 : 9);
        r.due("of(" + road + ", 9)", none ? ColdShod.VOID : 9).due("of(" + road + ", 12)", none ? ColdShod.VOID : from);
        r.due("of(" + road + ", 13)", none ? ColdShod.VOID : to);
        r.due("mend(" + road + ", 10, 0)", none ? ColdShod.VOID : 0);
    }

    private static void places() {
        Doc.says("FROM, TO (unlike PLACES 0 .. 7; both ways)");
        for (int ft = -120; ft <= 120; ft++) {
            boolean good = ft >= 0 && ft / 10 < 8 && ft % 10 < 8 && ft / 10 != ft % 10;
            Run r = Run.begin().does("idea(0, 0)").due("way(0, " + ft + ", -1)", good ? -2 : -1);
            r.due("road(" + ft + ", 1)", good ? 0 : -1).due("count(2)", good ? 1 : 0);
            r.due("of(0, 12)", good ? ft / 10 : ColdShod.VOID).due("of(0, 13)", good ? ft % 10 : ColdShod.VOID);
            r.due("way(0, " + ft + ", -1)", good ? 4 : -1);
        }
        for (String ft : new String[] {"MIN", "MAX", "-2147483646", "2147483601", "1001", "177"}) {
            Run.begin().does("idea(0, 0)").due("road(" + ft + ", 1) BAD  way(0, " + ft + ", 0) BAD  count(2) 0");
        }
        Doc.says("(ft: 10 times the PLACE from, and that to, unlike)");
        Run.begin().due("road(7, 1) 0  road(70, 1) 1  of(0, 12) 0  of(0, 13) 7  of(1, 12) 7  of(1, 13) 0  road(77, 1) BAD  "
            + "road(0, 1) BAD");
        for (int place = 0; place < 8; place++) {
            Run.begin().does("idea(0, 0)").due("reach(0, " + place + ")", 1 << place).due("reach(0, -1) BAD  reach(0, 8) BAD");
        }
    }

    private static void bothWays() {
        Doc.says("FROM, TO (unlike PLACES 0 .. 7; both ways)");
        Run.begin().does("idea(0, 0) road(25, 3)").due("way(0, 25, 0) 0  way(0, 52, 0) 0  way(0, 25, -1) 12  way(0, 52, -1) 12")
            .due("reach(0, 2) 36  reach(0, 5) 36  reach(0, 3) 8");
    }

    private static void milesSteepKind() {
        Doc.says("MILES (1 .. 9)");
        Run.begin().due("road(1, MIN) BAD  road(1, -1) BAD  road(1, 0) BAD  road(1, 10) BAD  road(1, MAX) BAD  count(2) 0")
            .due("road(1, 1) 0  road(1, 9) 1  of(0, 9) 1  of(1, 9) 9");
        mendedWithin(9, 1, 9, 1);
        Doc.says("STEEP (0 .. 9; 0 at first)");
        mendedWithin(10, 0, 9, 0);
        Doc.says("KIND (0 grass, 1 stone, 2 ice; 0 at first)");
        mendedWithin(11, 0, 2, 0);
    }

    private static void grip() {
        Doc.says("GRIP of an IDEA: 9, less WORN by 11 (cut)");
        for (int worn = 0; worn < 100; worn++) {
            Run.begin().does("idea(0, 0) mend(0, 4, " + worn + ")").due("of(0, 14)", 9 - (worn - worn % 11) / 11);
        }
        Run.begin().does("idea(0, 0)").due("of(0, 14) 9  mend(0, 4, 10) 0  of(0, 14) 9  mend(0, 4, 11) 10  of(0, 14) 8")
            .due("mend(0, 4, 98) 11  of(0, 14) 1  mend(0, 4, 99) 98  of(0, 14) 0");
    }

    private static void climbs() {
        Doc.says("It CLIMBS a ROAD, if STEEP is GRIP or less. To GO a ROAD: if it cannot CLIMB it, it does not go");
        for (int worn = 0; worn < 99; worn++) {
            int grip = 9 - worn / 11;
            Run r = Run.begin().does("idea(0, 0) road(1, 1) mend(0, 4, " + worn + ") mend(0, 10, " + grip
                + ")").law("0").bytes(0, 0);
            r.due("journey(0, 0, 1) 1  strokes(0, 0, -1) 0  way(0, 1, -2) 1  reach(0, 0) 3  goes(0, 0) 1");
            if (grip == 9) continue;
            r.does("mend(0, 10, " + (grip + 1) + ") mend(0, 7, 1) mend(0, 6, 1)");
            r.due("journey(0, 0, 1) 0  journey(0, 0, 0) 0  journey(0, 0, 4) 0  strokes(0, 0, -1) NOT  way(0, 1, -2) NOT");
            r.due("reach(0, 0) 1  goes(0, 0) STATE").due("of(0, 4)", worn).due("led(2) 1  led(3) 1");
        }
    }

    private static Run onOneRoad(String law, int miles, int worn, int heat) {
        return Run.begin().does("idea(0, 0) road(1, " + miles + ") mend(0, 4, " + worn + ") mend(0, 5, " + heat
            + ")").law(law).bytes(0, 0);
    }

    /** A journey of one ROAD, in thought and then in deed. */
    private static void goesSo(Run r, int miles, int worn, int heat, boolean toItsEnd) {
        r.due("journey(0, 0, 0)", miles).due("journey(0, 0, 1)", toItsEnd ? 1 : 0).due("journey(0, 0, 2)", worn);
        r.due("journey(0, 0, 3)", heat).due("journey(0, 0, 4)", toItsEnd ? -2 : 0);
        r.due("goes(0, 0)", miles).due("of(0, 4)", worn).due("of(0, 5)", heat).due("led(2)", toItsEnd ? 1 : 0);
        r.due("led(3)", miles).due("led(4)", worn == 99 ? 1 : 0);
    }

    private static void wornByMiles() {
        Doc.says("else mile by mile WORN is so much more (as it then is; 99 at most)");
        goesSo(onOneRoad("9", 9, 0, 0), 9, 81, 0, true);
        goesSo(onOneRoad("9", 9, 17, 0), 9, 98, 0, true);
        goesSo(onOneRoad("9", 9, 18, 0), 9, 99, 0, true);
        goesSo(onOneRoad("9", 9, 19, 0), 9, 99, 0, true);
        goesSo(onOneRoad("9", 9, 26, 0), 9, 99, 0, true);
        goesSo(onOneRoad("9", 9, 27, 0), 8, 99, 0, false);
        goesSo(onOneRoad("9", 9, 90, 0), 1, 99, 0, false);
        goesSo(onOneRoad("9", 1, 89, 0), 1, 98, 0, true);
        goesSo(onOneRoad("9", 1, 90, 0), 1, 99, 0, true);
        goesSo(onOneRoad("9", 1, 98, 0), 1, 99, 0, true);
        goesSo(onOneRoad("0", 9, 98, 0), 9, 98, 0, true);
        // 1, 2, 4, 8, 16, and from there 9 a mile
        goesSo(onOneRoad("w", 9, 1, 0), 9, 61, 0, true);
        goesSo(onOneRoad("w", 9, 0, 0), 9, 0, 0, true);
        goesSo(onOneRoad("w%2?5;w<20?1;0", 9, 2, 0), 9, 20, 0, true);
        goesSo(onOneRoad("98-w", 9, 90, 0), 9, 98, 0, true);
    }

    private static void lame() {
        Doc.says("with WORN 99 it is LAME, and stops behind that mile. Who is LAME goes no more.");
        goesSo(onOneRoad("1", 9, 90, 3), 9, 99, 2, true);
        goesSo(onOneRoad("1", 9, 91, 3), 8, 99, 3, false);
        goesSo(onOneRoad("1", 2, 98, 3), 1, 99, 3, false);
        onOneRoad("0", 1, 98, 0).due("goes(0, 0) 1  mend(0, 4, 99) 98  goes(0, 0) STATE  journey(0, 0, 0) 0  journey(0, 0, 4) 0")
            .due("way(0, 1, -1) NOT  drawn(0, 101, 0, 0) 0  drawn(0, 101, 0, 1) 1  led(2) 1  led(3) 1  led(4) 0");
    }

    private static void heatBehindRoads() {
        Doc.says("HEAT is one less behind each ROAD gone to its end (0 at least).");
        for (int heat = 0; heat <= 9; heat++) {
            goesSo(onOneRoad("1", 5, 0, heat), 5, 5, Math.max(0, heat - 1), true);
            Run r = onOneRoad("0", 5, 0, heat).bytes(0, 0, 0, 0).due("journey(0, 0, 3)", Math.max(0, heat - 3));
            r.due("goes(0, 0) 5  goes(0, 0) 5").due("of(0, 5)", Math.max(0, heat - 2));
            goesSo(onOneRoad("1", 5, 96, heat), 3, 99, heat, false);
        }
    }

    private static void ideaIs(Run r, int shape, int worn, int heat, int heated) {
        r.due("of(0, 3)", shape).due("of(0, 4)", worn).due("of(0, 5)", heat).due("of(0, 7)", heated);
    }

    private static Run ideaOf(int shape, int worn, int heat, int heated, int cast) {
        return Run.begin().does("idea(1, " + shape + ") mend(0, 4, " + worn + ") mend(0, 5, " + heat + ") mend(0, 7, " + heated
            + ") mend(0, 6, " + cast + ")");
    }

    private static void heats() {
        Doc.says("STROKES: 0 HEAT: HEAT 3 more (9 at most), HEATED one more (9 stays)");
        int[] behind = {3, 4, 5, 6, 7, 8, 9, 9, 9, 9};
        for (int heat = 0; heat <= 9; heat++) {
            Run r = ideaOf(2, 7, heat, 0, 0).due("stroke(0, 0) 1");
            ideaIs(r, 2, 7, behind[heat], 1);
            r.due("led(0) 1  led(1) 0");
        }
    }

    private static void heatedStays() {
        Doc.says("0 HEAT: HEAT 3 more (9 at most), HEATED one more (9 stays)");
        for (int heated = 0; heated <= 9; heated++) {
            Run r = ideaOf(2, 7, 1, heated, 0).due("stroke(0, 0) 1");
            ideaIs(r, 2, 7, 4, Math.min(9, heated + 1));
        }
        Run r = ideaOf(0, 0, 9, 8, 0).due("stroke(0, 0) 1");
        ideaIs(r, 0, 0, 9, 9);
        r = ideaOf(0, 0, 8, 9, 0).due("stroke(0, 0) 1");
        ideaIs(r, 0, 0, 9, 9);
        // neither HEAT nor HEATED can be more: nothing changed
        r = ideaOf(0, 0, 9, 9, 0).due("stroke(0, 0) 0  led(0) 0  led(1) 1");
        ideaIs(r, 0, 0, 9, 9);
    }

    private static void castOnes() {
        Doc.says("a CAST one that was HEATED once or more is none the hotter (nothing changes)");
        for (int heated = 0; heated <= 9; heated++) {
            Run r = ideaOf(3, 5, 2, heated, 1).due("stroke(0, 0)", heated == 0 ? 1 : 0);
            ideaIs(r, 3, 5, heated == 0 ? 5 : 2, Math.max(1, heated));
            r.due("led(0)", heated == 0 ? 1 : 0).due("led(1)", heated == 0 ? 0 : 1);
            r.due("stroke(0, 0) 0");
            ideaIs(r, 3, 5, heated == 0 ? 5 : 2, Math.max(1, heated));
            r.does("mend(0, 6, 0)").due("stroke(0, 0) 1");
        }
    }

    private static void draws() {
        Doc.says("1, 2 DRAW: SHAPE one more, one less (0 .. 5), if HEAT is 2 or more (HEAT 2 less then).");
        for (int heat = 0; heat <= 9; heat++) {
            for (int shape = 0; shape <= 5; shape++) {
                boolean more = heat >= 2 && shape < 5, less = heat >= 2 && shape > 0;
                Run r = ideaOf(shape, 7, heat, 4, 0).due("stroke(0, 1)", more ? 1 : 0);
                ideaIs(r, more ? shape + 1 : shape, 7, more ? heat - 2 : heat, 4);
                r.due("led(0)", more ? 1 : 0).due("led(1)", more ? 0 : 1);
                r = ideaOf(shape, 7, heat, 4, 1).due("stroke(0, 2)", less ? 1 : 0);
                ideaIs(r, less ? shape - 1 : shape, 7, less ? heat - 2 : heat, 4);
                r.due("led(0)", less ? 1 : 0).due("led(1)", less ? 0 : 1);
            }
        }
    }

    private static void nails() {
        Doc.says("3 NAIL: WORN 10 less (0 at least), if HEAT is 1 or more (HEAT 1 less then). What cannot be done changes nothing.");
        for (int heat = 0; heat <= 9; heat++) {
            for (int worn : new int[] {0, 1, 9, 10, 11, 50, 98, 99}) {
                Run r = ideaOf(4, worn, heat, 4, heat % 2).due("stroke(0, 3)", heat > 0 ? 1 : 0);
                ideaIs(r, 4, heat > 0 ? Math.max(0, worn - 10) : worn, Math.max(0, heat - 1), 4);
                r.due("led(0)", heat > 0 ? 1 : 0).due("led(1)", heat > 0 ? 0 : 1);
            }
        }
    }

    private static void journeyLengths() {
        Doc.says("A JOURNEY: a ROW of bytes on a SHELF: ROADS, one behind the other (20 at most; it ends with what is none)");
        for (int length : new int[] {0, 1, 2, 18, 19, 20, 21, 22, 59, 60}) {
            int roads = Math.min(20, length);
            Run r = Run.begin().does("idea(0, 0) road(1, 2) row(0, 0, " + length + ")").law("1");
            r.due("journey(0, 0, 0)", 2 * roads).due("journey(0, 0, 1)", roads).due("journey(0, 0, 2)", 2 * roads);
            r.due("journey(0, 0, 3) 0  journey(0, 0, 4) NOT").due("strokes(0, 0, -1) 0");
            // WORN 59 is 99 behind the 20th ROAD, WORN 60 within it
            r.does("mend(0, 4, 60) mend(0, 5, 9)").due("journey(0, 0, 4)", length < 20 ? -2 : 19);
            r.due("strokes(0, 0, -1)", length < 20 ? 0 : 1);
            r.does("mend(0, 4, 59)").due("journey(0, 0, 4) NOT  strokes(0, 0, -1) 0");
        }
    }

    private static void journeyEnds() {
        Doc.says("A JOURNEY: a ROW of bytes on a SHELF: ROADS, one behind the other (20 at most; it ends with what is none)");
        int[] none = {-1, -128, 127, 12, 2};
        for (int end : none) {
            for (int place : new int[] {0, 1, 18, 19, 20, 59}) {
                Run r = Run.begin().does("idea(0, 0) road(1, 1) road(12, 1) row(0, 0, 60)").law("1");
                r.due("put(0, " + place + ", " + end + ") 1").due("journey(0, 0, 1)", Math.min(20, place))
                    .due("journey(0, 0, 4) NOT");
            }
        }
        Run r = Run.begin().does("idea(0, 0)").law("1").bytes(0, 0, 11, 12, 0).due("journey(0, 0, 1) 0  strokes(0, 0, -1) 0");
        for (int road = 0; road < 11; road++) r.does("road(1, 1)");
        r.due("journey(0, 0, 1) 1").does("road(1, 1)").due("journey(0, 0, 1) 2  road(1, 1) FULL  journey(0, 0, 1) 2");
        r.due("put(0, 2, 256) 1  journey(0, 0, 1) 4  put(0, 2, 255) 1  journey(0, 0, 1) 2");
    }

    private static void journeyNeedNotJoin() {
        Doc.says("from where its first ROAD is gone (ROADS need not join).");
        Run.begin().does("idea(0, 0) road(1, 1) road(67, 2) road(32, 3)").law("1").bytes(0, 1, 2, 0, 1)
            .due("journey(0, 0, 0) 8  journey(0, 0, 1) 4  journey(0, 0, 4) NOT");
    }
}
