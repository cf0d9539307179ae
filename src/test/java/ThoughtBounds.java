/** The bounds of what is thought: JOURNEYS, STROKES FOR them, LEAST WORN ways, REACH. */
final class ThoughtBounds {
    private ThoughtBounds() {
    }

    static void all() {
        howFarOneComes();
        whatIsAsked();
        journeysRefused();
        fewestStrokes();
        strokesNot();
        strokesOfLikeNumber();
        strokesAtTheEnds();
        whichStroke();
        leastWorn();
        noPlaceTwice();
        goneToTheEnd();
        waysOfLikeWear();
        whichRoad();
        longestWay();
        reaches();
        climbsNow();
    }

    private static Run oneAMile() {
        return Run.begin().does("idea(0, 0)").law("1");
    }

    private static void howFarOneComes() {
        Doc.says("MILES gone; how many ROADS are gone to their end; WORN, HEAT then; the first ROAD it does not go to its end"
            + " (its place, 0 on; NOT); it ends there. Whether all are gone.");
        Run r = oneAMile().does("road(1, 9) road(12, 9) mend(1, 10, 9) mend(0, 5, 2)").bytes(0, 1, 0, 0, 1, 0);
        // WORN 27 ahead of the fourth: GRIP 7 does not climb it, and the fifth is not gone then
        r.due("journey(0, 0, 0) 27  journey(0, 0, 1) 3  journey(0, 0, 2) 27  journey(0, 0, 3) 0  journey(0, 0, 4) 3");
        r.does("mend(1, 10, 7)").due("journey(0, 0, 0) 45  journey(0, 0, 1) 5  journey(0, 0, 2) 45  journey(0, 0, 4) NOT");
        r.does("mend(0, 4, 50)").due("journey(0, 0, 0) 0  journey(0, 0, 1) 0  journey(0, 0, 2) 50  journey(0, 0, 3) 2  "
            + "journey(0, 0, 4) 0");
        r.does("mend(1, 10, 0)").due("journey(0, 0, 0) 45  journey(0, 0, 2) 95  journey(0, 0, 4) NOT");
        r.does("mend(0, 4, 54)").due("journey(0, 0, 0) 45  journey(0, 0, 1) 5  journey(0, 0, 2) 99  journey(0, 0, 4) NOT");
        r.does("mend(0, 4, 55)").due("journey(0, 0, 0) 44  journey(0, 0, 1) 4  journey(0, 0, 2) 99  journey(0, 0, 4) 4");
        r.does("mend(0, 4, 63)").due("journey(0, 0, 0) 36  journey(0, 0, 1) 4  journey(0, 0, 2) 99  journey(0, 0, 4) 4");
        r.does("mend(0, 4, 99)").due("journey(0, 0, 0) 0  journey(0, 0, 1) 0  journey(0, 0, 2) 99  journey(0, 0, 3) 2  "
            + "journey(0, 0, 4) 0");
        r.does("row(0, 0, 0)").due("journey(0, 0, 0) 0  journey(0, 0, 1) 0  journey(0, 0, 2) 99  journey(0, 0, 3) 2  "
            + "journey(0, 0, 4) NOT");
        r.due("of(0, 4) 99  of(0, 5) 2  led(3) 0");
    }

    private static void whatIsAsked() {
        Doc.says("MILES gone (what 0), how many ROADS (1), WORN (2), HEAT (3), the first not gone to its end (4; NOT).");
        oneAMile().does("road(1, 3) mend(0, 4, 20) mend(0, 5, 9)").bytes(0, 0, 0)
            .due("journey(0, 0, MIN) BAD  journey(0, 0, -1) BAD  journey(0, 0, 5) BAD  journey(0, 0, MAX) BAD")
            .due("journey(0, 0, 0) 6  journey(0, 0, 1) 2  journey(0, 0, 2) 26  journey(0, 0, 3) 7  journey(0, 0, 4) NOT");
    }

    private static void journeysRefused() {
        Doc.says("(a JOURNEY on a SHELF: BAD, -11, -12 (no ROW of bytes))");
        Run r = oneAMile().does("road(1, 3) body(0)");
        for (String shelf : new String[] {"MIN", "-1", "6", "MAX"}) {
            r.due("journey(" + shelf + ", 0, 0) BAD  strokes(" + shelf + ", 0, -1) BAD");
        }
        for (int shelf = 0; shelf < 6; shelf++) {
            String at = "(" + shelf + ", 0, ";
            r.due("journey" + at + "0) -11  strokes" + at + "-1) -11  strokes" + at + "0) -11  strokes" + at + "MAX) -11");
            r.due("journey" + at + "5) BAD  journey" + at + "-1) BAD  strokes" + at + "-2) BAD  journey(" + shelf + ", 1, 0) "
                + "BAD");
            r.does("keep(" + shelf + ", 0)").due("journey" + at + "0) -12  strokes" + at + "-1) -12  strokes" + at + "4) -12");
            for (int sort = 1; sort <= 4; sort++) {
                r.does("row(" + shelf + ", " + sort + ", 1)").due("journey" + at + "4) -12  strokes" + at + "0) -12");
            }
            r.due("journey" + at + "5) BAD  strokes" + at + "-2) BAD  strokes(" + shelf + ", -1, 0) BAD");
            r.does("row(" + shelf + ", 0, 1)").due("journey" + at + "0) 3  strokes" + at + "-1) 0");
            r.does("keep(" + shelf + ", -1)").due("journey" + at + "0) -11  strokes" + at + "-1) -11");
        }
    }

    private static Run worn(int worn, int heat, int roads) {
        Run r = oneAMile().does("road(1, 9) row(0, 0, " + roads + ") mend(0, 4, " + worn + ") mend(0, 5, " + heat + ")");
        return r;
    }

    private static void strokesAre(Run r, int... want) {
        r.due("strokes(0, 0, -1)", want.length);
        for (int k = 0; k < want.length; k++) r.due("strokes(0, 0, " + k + ")", want[k]);
        r.due("strokes(0, 0, " + want.length + ") NOT  strokes(0, 0, 4) NOT  strokes(0, 0, 5) NOT  strokes(0, 0, MAX) NOT");
        r.due("strokes(0, 0, -2) BAD  strokes(0, 0, MIN) BAD");
    }

    private static void noStrokes(Run r) {
        r.due("strokes(0, 0, -1) NOT  strokes(0, 0, 0) NOT  strokes(0, 0, 1) NOT  strokes(0, 0, 4) NOT  strokes(0, 0, MAX) NOT");
        r.due("strokes(0, 0, -2) BAD  strokes(0, 0, MIN) BAD");
    }

    private static void fewestStrokes() {
        Doc.says("STROKES FOR a JOURNEY: the fewest STROKES (0 .. 4) ahead of it by which all its ROADS are gone to the end:"
            + " how many; the k-th (of like ones the least, one behind the other); NOT.");
        strokesAre(worn(90, 0, 1));
        strokesAre(worn(90, 9, 1));
        strokesAre(worn(99, 0, 0));
        strokesAre(worn(91, 1, 1), 3);
        strokesAre(worn(99, 9, 1), 3);
        strokesAre(worn(91, 0, 1), 0, 3);
        strokesAre(worn(91, 2, 2), 3);
        strokesAre(worn(92, 2, 2), 3, 3);
        strokesAre(worn(99, 1, 2), 0, 3, 3);
        strokesAre(worn(99, 0, 2), 0, 3, 3);
        strokesAre(worn(99, 3, 3), 3, 3, 3);
        strokesAre(worn(99, 2, 3), 0, 3, 3, 3);
        strokesAre(worn(99, 0, 3), 0, 3, 3, 3);
        strokesAre(worn(99, 4, 4), 3, 3, 3, 3);
        strokesAre(worn(93, 4, 4), 3, 3, 3);
        strokesAre(worn(94, 9, 5), 3, 3, 3, 3);
        Run r = worn(99, 4, 4).due("strokes(0, 0, -1) 4").due("of(0, 4) 99  of(0, 5) 4  of(0, 7) 0  led(0) 0  led(1) 0");
        strokesAre(r, 3, 3, 3, 3);
    }

    private static void strokesNot() {
        Doc.says("STROKES FOR a JOURNEY: the fewest STROKES (0 .. 4) ahead of it by which all its ROADS are gone to the end:"
            + " how many; the k-th (of like ones the least, one behind the other); NOT.");
        // five were wanted
        noStrokes(worn(99, 3, 4));
        noStrokes(worn(99, 0, 4));
        noStrokes(worn(95, 9, 5));
        noStrokes(worn(99, 9, 5));
        // a CAST one is HEATED once alone
        strokesAre(worn(99, 0, 3).does("mend(0, 6, 1)"), 0, 3, 3, 3);
        noStrokes(worn(99, 0, 3).does("mend(0, 6, 1) mend(0, 7, 1)"));
        noStrokes(worn(91, 0, 1).does("mend(0, 6, 1) mend(0, 7, 9)"));
        strokesAre(worn(91, 1, 1).does("mend(0, 6, 1) mend(0, 7, 9)"), 3);
        // .. in thought, too: two DRAWS want HEAT 4, so HEAT twice, or once if it has one
        String drawn = "head(5) idea(0, 3) mend(0, 8, 0) road(1, 9) row(0, 0, 1) mend(0, 4, 98)";
        strokesAre(Run.begin().does(drawn).law("f?9;0"), 0, 0, 1, 1);
        noStrokes(Run.begin().does(drawn + " mend(0, 6, 1)").law("f?9;0"));
        strokesAre(Run.begin().does(drawn + " mend(0, 6, 1) mend(0, 5, 1)").law("f?9;0"), 0, 1, 1);
        noStrokes(Run.begin().does(drawn + " mend(0, 6, 1) mend(0, 5, 1) mend(0, 7, 1)").law("f?9;0"));
        // STEEP 9 wants WORN 10 or less
        strokesAre(worn(50, 4, 1).does("mend(0, 10, 9)"), 3, 3, 3, 3);
        noStrokes(worn(51, 9, 1).does("mend(0, 10, 9)"));
    }

    private static void strokesOfLikeNumber() {
        Doc.says("the k-th (of like ones the least, one behind the other)");
        // it must be both NAILED and hot: 0 3 ahead of 3 0
        strokesAre(Run.begin().does("idea(0, 0) road(1, 9) row(0, 0, 1) mend(0, 4, 99) mend(0, 5, 1)").law("h>2?0;9"), 0, 3);
        // either DRAW does: 1 ahead of 2
        Run both = Run.begin().does("head(2) idea(0, 2) mend(0, 8, 0) road(1, 9) row(0, 0, 1) mend(0, 4, 95)").law("f=1?0;9");
        strokesAre(both, 0, 1);
        strokesAre(both.does("mend(0, 5, 2)"), 1);
        strokesAre(both.does("mend(0, 3, 4)"), 2);
        strokesAre(both.does("mend(0, 3, 0)"), 1);
        // HEAT where it is not needed first: three STROKES, the least of them begins with 0
        strokesAre(Run.begin().does("head(5) idea(0, 3) mend(0, 8, 0) road(1, 9) row(0, 0, 1) mend(0, 5, 2) "
            + "mend(0, 4, 98)").law("f?9;0"),
            0, 1, 1);
        strokesAre(Run.begin().does("head(5) idea(0, 3) mend(0, 8, 0) road(1, 9) row(0, 0, 1) mend(0, 5, 4) "
            + "mend(0, 4, 99)").law("f?9;0"),
            0, 1, 1, 3);
        // SHAPE 5 has none more, SHAPE 0 none less
        noStrokes(Run.begin().does("head(0) idea(0, 5) mend(0, 8, 0) road(1, 9) row(0, 0, 1) mend(0, 5, 9) "
            + "mend(0, 4, 98)").law("f?9;0"));
        strokesAre(Run.begin().does("head(0) idea(0, 4) mend(0, 8, 0) road(1, 9) row(0, 0, 1) mend(0, 5, 8) "
            + "mend(0, 4, 98)").law("f?9;0"),
            2, 2, 2, 2);
    }

    /** Where SHAPE, WORN, HEAT and HEATED are as little or as much as they can be. */
    private static void strokesAtTheEnds() {
        Doc.says("STROKES FOR a JOURNEY: the fewest STROKES (0 .. 4) ahead of it by which all its ROADS are gone to the end:");
        for (int shape = 0; shape <= 5; shape++) {
            for (int heat : new int[] {0, 9}) {
                for (int heated : new int[] {0, 9}) {
                    String told = "head(" + shape + ") idea(0, " + shape + ") mend(0, 8, 0) road(1, 9) row(0, 0, 2) mend(0, 5, " + heat
                        + ") mend(0, 7, " + heated + ")";
                    // it wears nothing while SHAPE is FORM
                    Run r = Run.begin().does(told).law("f?9;0");
                    strokesAre(r);
                    r.does("mend(0, 4, 99)");
                    if (heat == 9) strokesAre(r, 3);
                    else strokesAre(r, 0, 3);
                }
            }
        }
    }

    private static void whichStroke() {
        Doc.says("STROKES FOR it: how many (k -1), the k-th (NOT: there are not as many). NOT.");
        worn(92, 2, 2).due("strokes(0, 0, MIN) BAD  strokes(0, 0, -2) BAD  strokes(0, 0, -1) 2  strokes(0, 0, 0) 3  "
            + "strokes(0, 0, 1) 3")
            .due("strokes(0, 0, 2) NOT  strokes(0, 0, 3) NOT  strokes(0, 0, MAX) NOT");
        worn(0, 0, 1).due("strokes(0, 0, -1) 0  strokes(0, 0, 0) NOT");
    }

    private static void wayIs(Run r, int ft, int worn, int... roads) {
        r.due("way(0, " + ft + ", -1)", worn).due("way(0, " + ft + ", -2)", roads.length);
        for (int k = 0; k < roads.length; k++) r.due("way(0, " + ft + ", " + k + ")", roads[k]);
        r.due("way(0, " + ft + ", " + roads.length + ") NOT  way(0, " + ft + ", 12) NOT  way(0, " + ft + ", MAX) NOT");
        r.due("way(0, " + ft + ", -3) BAD  way(0, " + ft + ", MIN) BAD");
    }

    private static void noWay(Run r, int ft) {
        for (String k : new String[] {"-2", "-1", "0", "1", "7", "MAX"}) r.due("way(0, " + ft + ", " + k + ") NOT");
        r.due("way(0, " + ft + ", -3) BAD  way(0, " + ft + ", MIN) BAD");
    }

    private static void leastWorn() {
        Doc.says("LEAST WORN: a way from a PLACE to another one by ROADS, no PLACE twice, all gone to the end, behind which it is"
            + " WORN least: WORN then; how many ROADS;");
        noWay(oneAMile(), 1);
        Run r = oneAMile().does("road(1, 9) road(20, 3) road(12, 5)");
        wayIs(r, 1, 8, 1, 2);
        wayIs(r, 10, 8, 2, 1);
        r.does("mend(2, 9, 7)");
        wayIs(r, 1, 9, 0);
        noWay(r, 3);
        noWay(r, 34);
        r.due("way(0, 0, -1) BAD  way(0, 11, -1) BAD  way(0, 8, -1) BAD  way(0, 80, -1) BAD  way(0, -1, -1) BAD");
    }

    private static void noPlaceTwice() {
        Doc.says("LEAST WORN: a way from a PLACE to another one by ROADS, no PLACE twice");
        // grass wears nothing and cools: to and fro it would cool to the end
        Run r = Run.begin().does("idea(0, 0) road(1, 1) road(12, 1) mend(1, 11, 2) mend(0, 5, 4)").law("k*h");
        wayIs(r, 2, 6, 0, 1);
        r.does("road(3, 1) road(31, 1)");
        wayIs(r, 2, 4, 2, 3, 1);
        // by the PLACE where it begins, and by that where it ends, it goes once alone
        r.does("road(20, 1) mend(4, 11, 1)");
        wayIs(r, 2, 4, 4);
        r.does("road(24, 1) road(40, 1)");
        wayIs(r, 21, 0, 5, 6, 0);
    }

    private static void goneToTheEnd() {
        Doc.says("all gone to the end, behind which it is WORN least: WORN then;");
        Run r = oneAMile().does("road(1, 9) road(12, 9) mend(0, 4, 81)");
        wayIs(r, 2, 99, 0, 1);
        r.does("mend(0, 4, 82)");
        noWay(r, 2);
        r.does("mend(0, 4, 90)");
        wayIs(r, 1, 99, 0);
        noWay(r, 2);
        r.does("mend(0, 4, 91)");
        noWay(r, 1);
        r.does("mend(0, 4, 99)");
        noWay(r, 1);
        r.does("mend(0, 4, 0) mend(1, 10, 9)");
        wayIs(r, 2, 18, 0, 1);
        r.does("mend(0, 4, 1)");
        wayIs(r, 2, 19, 0, 1);
        r.does("mend(0, 4, 2)");
        noWay(r, 2);
    }

    private static void waysOfLikeWear() {
        Doc.says("the k-th (of like ones the fewest ROADS, then the first by numbers); NOT.");
        Run r = Run.begin().does("idea(0, 0) road(1, 1) road(12, 1) road(2, 1) road(20, 1)").law("0");
        wayIs(r, 2, 0, 2);
        wayIs(r, 20, 0, 2);
        r = Run.begin().does("idea(0, 0) road(32, 1) road(3, 1) road(12, 1) road(1, 1)").law("0");
        wayIs(r, 2, 0, 1, 0);
        wayIs(r, 20, 0, 0, 1);
        r = Run.begin().does("idea(0, 0) road(1, 1) road(12, 1) road(21, 1) road(10, 1)").law("0");
        wayIs(r, 2, 0, 0, 1);
        wayIs(r, 20, 0, 1, 0);
        // less WORN ahead of fewer ROADS, and those ahead of lesser numbers
        r = Run.begin().does("idea(0, 0) road(1, 1) road(12, 1) road(2, 3)").law("1");
        wayIs(r, 2, 2, 0, 1);
        r.does("mend(2, 9, 2)");
        wayIs(r, 2, 2, 2);
    }

    private static void whichRoad() {
        Doc.says("LEAST WORN: WORN (k -1), how many ROADS (-2), the k-th (NOT: there are not as many). BAD; NOT.");
        Run r = oneAMile().does("road(1, 1) road(12, 1)");
        r.due("way(0, 2, MIN) BAD  way(0, 2, -3) BAD  way(0, 2, -2) 2  way(0, 2, -1) 2  way(0, 2, 0) 0  way(0, 2, 1) 1  "
            + "way(0, 2, 2) NOT");
        // no way, and k, IDEA or PLACES not as said: BAD is named first
        r.due("way(0, 3, -3) BAD  way(1, 3, -1) BAD  way(-1, 3, -1) BAD  way(0, 33, -1) BAD  way(0, 3, -1) NOT  way(0, 3, 0) "
            + "NOT");
    }

    private static void longestWay() {
        Doc.says("LEAST WORN: a way from a PLACE to another one by ROADS, no PLACE twice");
        Run r = oneAMile();
        for (int place = 6; place >= 0; place--) r.does("road(" + (10 * place + place + 1) + ", 2)");
        wayIs(r, 7, 14, 6, 5, 4, 3, 2, 1, 0);
        wayIs(r, 70, 14, 0, 1, 2, 3, 4, 5, 6);
        r.due("way(0, 7, 6) 0  way(0, 7, 7) NOT  way(0, 7, 8) NOT");
        r.does("road(7, 9)").does("road(7, 9)").does("mend(7, 10, 9) mend(8, 10, 9) mend(0, 4, 11)");
        wayIs(r, 7, 25, 6, 5, 4, 3, 2, 1, 0);
        r.does("mend(0, 4, 10)");
        wayIs(r, 7, 19, 7);
    }

    private static void reaches() {
        Doc.says("REACH: to which PLACES (bits) an IDEA can come from one by ROADS it CLIMBS now, however far.");
        Run r = oneAMile();
        for (int place = 0; place < 8; place++) r.due("reach(0, " + place + ")", 1 << place);
        r.due("reach(0, MIN) BAD  reach(0, -1) BAD  reach(0, 8) BAD  reach(0, MAX) BAD");
        for (int place = 6; place >= 0; place--) r.does("road(" + (10 * place + place + 1) + ", 9)");
        for (int place = 0; place < 8; place++) r.due("reach(0, " + place + ") 255");
        // 63 miles are more than WORN 98 can go; a LAME one CLIMBS what is not steep
        r.does("mend(0, 4, 98)").due("reach(0, 0) 255  reach(0, 7) 255").does("mend(0, 4, 99)").due("reach(0, 0) 255");
        r.does("mend(3, 10, 1)").due("reach(0, 0) 15  reach(0, 3) 15  reach(0, 4) 240  reach(0, 7) 240");
        // twelve ROADS, the last of them needed
        r.does("road(12, 9) road(56, 9) road(56, 9) road(56, 9)").due("reach(0, 0) 15").does("road(34, 1)").due("reach(0, 0) 255");
        Doc.says("REACH: bits. BAD.");
        r.due("reach(1, 0) BAD  reach(-1, 0) BAD  reach(1, 8) BAD  reach(MIN, 0) BAD  reach(MAX, 0) BAD");
    }

    private static void climbsNow() {
        Doc.says("by ROADS it CLIMBS now, however far.");
        // behind the first ROAD it would CLIMB the second no more, yet now it does
        Run r = Run.begin().does("idea(0, 0) road(1, 9) road(12, 1) mend(1, 10, 9)").law("9");
        r.due("reach(0, 0) 7  way(0, 2, -1) NOT").does("mend(0, 4, 11)").due("reach(0, 0) 3  reach(0, 2) 4");
    }
}
