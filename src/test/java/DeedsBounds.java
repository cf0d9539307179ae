/** The bounds of DRAWN lives, of deeds, of LED, of AN IMAGE and of CHANGES. */
final class DeedsBounds {
    private DeedsBounds() {
    }

    static void all() {
        livesAndRoads();
        drawsThatWrap();
        nailedByWill();
        lameEnds();
        drawnWithoutRoads();
        drawnRefused();
        strokesInDeed();
        goesInDeed();
        dealt();
        led();
        ledByLameOnes();
        imageAndBack();
        sameNumberIsNone();
        undone();
        doneAgain();
        fortyKept();
        everyNumberUndone();
        deedsAreNone();
        mendsRefused();
        ofRefused();
    }

    private static void livesAndRoads() {
        Doc.says("DRAWN: n lives (1 .. 30) of m ROADS (1 .. 40) of an IDEA from now by a SEED:");
        // a mile a ROAD, never NAILED: as many MILES as ROADS are drawn
        Run r = Run.begin().does("head(0) mend(0, 1, 0) idea(0, 0) mend(0, 8, 0) road(1, 1) mend(0, 5, 9)").law("1");
        for (int n : new int[] {1, 2, 29, 30}) {
            for (int m : new int[] {1, 2, 39, 40}) {
                r.due("drawn(77, " + (100 * n + m) + ", 0, 0)", n * m).due("drawn(77, " + (100 * n + m) + ", 0, 1)", 0);
            }
            for (int m : new int[] {0, 41, 99}) r.due("drawn(77, " + (100 * n + m) + ", 0, 0) BAD  drawn(77, " + (100 * n + m)
                + ", 0, 1) BAD");
        }
        for (int nm : new int[] {0, 1, 40, 41, 99, 3100, 3101, 3140, 4001, -1, -40, -99, -100, -101, -140, -3040}) {
            r.due("drawn(77, " + nm + ", 0, 0) BAD  drawn(77, " + nm + ", 0, 1) BAD");
        }
        r.due("drawn(77, MIN, 0, 0) BAD  drawn(77, MAX, 0, 0) BAD  of(0, 4) 0  of(0, 5) 9  led(3) 0");
        // each life is from now: WORN 90 gives 9 MILES to each, and each ends LAME
        r.does("mend(0, 4, 90)").due("drawn(77, 3040, 0, 0) 270  drawn(77, 3040, 0, 1) 30  drawn(77, 3009, 0, 1) 30  "
            + "drawn(77, 3008, 0, 1) 0");
    }

    /** The MILES of ROADS of 1 to 9 MILES that a SEED draws, worn by nothing. */
    private static void drawsThatWrap() {
        Doc.says("z = z * 1103515245 + 12345 (an int; SEED at first) ahead of each: ROAD (z >>> 8) % how many;");
        int[] seeds = {0, 1, -1, 5, 12345, Integer.MAX_VALUE, Integer.MIN_VALUE, 1 << 30, -12345, 305419896};
        for (int roads = 1; roads <= 12; roads++) {
            Run r = Run.begin().does("idea(0, 0)").law("0");
            for (int i = 0; i < roads; i++) r.does("road(1, " + (1 + i * 5 % 9) + ")");
            for (int seed : seeds) {
                long z = seed & 0xffffffffL;
                int miles = 0;
                for (int i = 0; i < 24; i++) {
                    z = (z * 1103515245L + 12345) & 0xffffffffL;
                    miles += 1 + (int) ((z / 256) % roads) * 5 % 9;
                    // z runs on from life to life: 24 draws in one, two or more of them are the same
                    if (i == 0) r.due("drawn(" + seed + ", 101, 0, 0)", miles);
                }
                r.due("drawn(" + seed + ", 124, 0, 0)", miles).due("drawn(" + seed + ", 212, 0, 0)", miles);
                r.due("drawn(" + seed + ", 2401, 0, 0)", miles).due("drawn(" + seed + ", 803, 0, 0)", miles);
            }
        }
    }

    private static void nailedByWill() {
        Doc.says("if (z >>> 16) % 12 is below WILL of its HEAD (6, if it has none), it is NAILED first (STROKE 3):");
        for (int seed = 0; seed < 60; seed++) {
            long z = (seed * 1103515245L + 12345) & 0xffffffffL;
            int told = (int) (z / 65536 % 12);
            // a LAME one with HEAT goes its ROAD if it is NAILED, and without HEAT it never is
            Run r = Run.begin().does("head(0) idea(0, 0) road(1, 1) mend(0, 4, 99) mend(0, 5, 1)").law("0");
            r.due("drawn(" + seed + ", 101, 0, 0)", told < 6 ? 1 : 0).due("drawn(" + seed + ", 101, 0, 1)", told < 6 ? 0 : 1);
            r.does("mend(0, 8, 0)").due("drawn(" + seed + ", 101, 0, 0)", told < 6 ? 1 : 0);
            for (int will = 0; will <= 12; will++) {
                r.does("mend(0, 1, " + will + ")").due("drawn(" + seed + ", 101, 0, 0)", told < will ? 1 : 0);
                r.due("drawn(" + seed + ", 101, 0, 1)", told < will ? 0 : 1);
            }
            r.does("mend(0, 5, 0)").due("drawn(" + seed + ", 101, 0, 0) 0").due("drawn(" + seed + ", 101, 0, 1) 1");
        }
        // WILL 12 is always NAILED, WILL 0 never: 10 less (0 at least) ahead of each
        Run r = Run.begin().does("head(0) idea(0, 0) mend(0, 8, 0) road(1, 1) mend(0, 1, 12) mend(0, 4, 99) "
            + "mend(0, 5, 2)").law("9");
        // HEAT 2: NAILED to 89, WORN 98, HEAT 0 behind the ROAD; then 99 and LAME
        r.due("drawn(3, 101, 0, 0) 1  drawn(3, 101, 0, 1) 0  drawn(3, 102, 0, 0) 2  drawn(3, 102, 0, 1) 1  "
            + "drawn(3, 140, 0, 0) 2");
        r.does("mend(0, 1, 0)").due("drawn(3, 140, 0, 0) 0  drawn(3, 140, 0, 1) 1");
    }

    private static void lameEnds() {
        Doc.says("MILES gone, all together; at how many ends it is LAME.");
        Run r = Run.begin().does("head(0) mend(0, 1, 0) idea(0, 0) mend(0, 8, 0) road(1, 1) mend(0, 4, 98)").law("1");
        r.due("drawn(9, 501, 0, 0) 5  drawn(9, 501, 0, 1) 5  drawn(9, 540, 0, 0) 5").does("mend(0, 4, 97)");
        r.due("drawn(9, 501, 0, 0) 5  drawn(9, 501, 0, 1) 0  drawn(9, 502, 0, 1) 5").does("mend(0, 10, 2)");
        r.due("drawn(9, 540, 0, 0) 0  drawn(9, 540, 0, 1) 0").does("mend(0, 4, 99)")
            .due("drawn(9, 540, 0, 0) 0  drawn(9, 540, 0, 1) 5");
    }

    private static void drawnWithoutRoads() {
        Doc.says("Without ROADS: 0, or how many ends, if it is LAME.");
        Run r = Run.begin().does("idea(0, 0) mend(0, 5, 9)");
        for (int n : new int[] {1, 2, 30}) r.due("drawn(4, " + (100 * n + 40) + ", 0, 0) 0")
            .due("drawn(4, " + (100 * n + 40) + ", 0, 1) 0");
        r.does("mend(0, 4, 98)").due("drawn(4, 3040, 0, 1) 0").does("mend(0, 4, 99)");
        for (int n : new int[] {1, 2, 30}) r.due("drawn(4, " + (100 * n + 1) + ", 0, 0) 0")
            .due("drawn(4, " + (100 * n + 40) + ", 0, 1)", n);
        r.due("drawn(4, 3101, 0, 1) BAD  drawn(4, 141, 0, 1) BAD  drawn(4, 100, 0, 1) BAD  drawn(4, 101, 0, 2) BAD");
    }

    private static void drawnRefused() {
        Doc.says("DRAWN (nm: 100 n and m): MILES (what 0), LAME ends (1). BAD.");
        Run r = Run.begin().due("drawn(0, 101, 0, 0) BAD").does("idea(0, 0) road(1, 1)").law("1");
        r.due("drawn(0, 101, 0, MIN) BAD  drawn(0, 101, 0, -1) BAD  drawn(0, 101, 0, 0) 1  drawn(0, 101, 0, 1) 0  "
            + "drawn(0, 101, 0, 2) BAD");
        r.due("drawn(0, 101, 0, MAX) BAD  drawn(0, 101, -1, 0) BAD  drawn(0, 101, 1, 0) BAD  drawn(0, 101, MIN, 0) BAD  "
            + "drawn(0, 101, MAX, 0) BAD");
        r.due("drawn(MIN, 101, 0, 0) 1  drawn(MAX, 101, 0, 0) 1  drawn(-1, 101, 0, 0) 1  drawn(0, 141, 1, 2) BAD");
    }

    private static void strokesInDeed() {
        Doc.says("A STROKE (0 .. 3): 1 done, 0 in vain (nothing changed). BAD.");
        Run r = Run.begin().due("stroke(0, 0) BAD").does("idea(0, 0) mend(0, 4, 50)");
        r.due("stroke(0, MIN) BAD  stroke(0, -1) BAD  stroke(0, 4) BAD  stroke(0, MAX) BAD  stroke(-1, 0) BAD  stroke(1, 0) BAD  "
            + "stroke(1, 4) BAD");
        r.due("led(0) 0  led(1) 0  stroke(0, 3) 0  of(0, 4) 50  led(1) 1  stroke(0, 0) 1  of(0, 5) 3  stroke(0, 3) 1  "
            + "of(0, 4) 40  led(0) 2");
        r.due("stroke(0, 1) 1  of(0, 3) 1  of(0, 5) 0  stroke(0, 2) 0  of(0, 3) 1  led(0) 3  led(1) 2");
    }

    private static void goesInDeed() {
        Doc.says("An IDEA GOES a ROAD: MILES gone. BAD; STATE: it is LAME, or cannot CLIMB it.");
        Run r = Run.begin().due("goes(0, 0) BAD").does("idea(0, 0)").due("goes(0, 0) BAD").does("road(1, 2)").law("1");
        r.due("goes(MIN, 0) BAD  goes(-1, 0) BAD  goes(1, 0) BAD  goes(MAX, 0) BAD  goes(0, MIN) BAD  goes(0, -1) BAD  "
            + "goes(0, 1) BAD  goes(0, MAX) BAD");
        r.due("goes(0, 0) 2  of(0, 4) 2").does("mend(0, 10, 9) mend(0, 4, 11)").due("goes(0, 0) STATE  goes(1, 0) BAD  "
            + "goes(0, 1) BAD");
        r.does("mend(0, 4, 10)").due("goes(0, 0) 2  of(0, 4) 12  goes(0, 0) STATE").does("mend(0, 4, 99)")
            .due("goes(0, 0) STATE  goes(0, 1) BAD");
        r.does("mend(0, 10, 0)").due("goes(0, 0) STATE  of(0, 4) 99  led(2) 2  led(3) 4  led(4) 0").does("mend(0, 4, 98)")
            .due("goes(0, 0) 1  goes(0, 0) STATE  led(4) 1");
    }

    private static void dealt() {
        Doc.says("All HEADS are dealt as asked (IDEAS nobody has: -1): how many have one.");
        Run.begin().due("deal() 0").does("head(0)").due("deal() 0");
        Run.begin().does("idea(0, 0)").due("deal() 0  of(0, 8) -1").does("head(5)").due("deal() 1  of(0, 8) 0  count(4) 0");
        Run r = Run.begin().does("head(0) head(1)");
        for (int d = 0; d < 8; d++) r.does("idea(0, " + d % 6 + ") mend(" + d + ", 8, 1)");
        r.due("deal() 2  of(0, 8) 0  of(1, 8) 1");
        for (int d = 2; d < 8; d++) r.due("of(" + d + ", 8) -1");
        // whoever of the IDEAS nobody has, it had one before
        for (int none = 0; none < 8; none++) {
            r = Run.begin().does("head(0) head(0) head(0) head(0) head(0) head(0)");
            for (int d = 0; d < 8; d++) r.does("idea(0, " + (d == none || d == (none + 1) % 8 ? 5 : 0) + ") mend(" + d + ", 8, 5)");
            r.due("deal() 6").due("of(" + none + ", 8) -1").due("of(" + (none + 1) % 8 + ", 8) -1").due("settled() 1");
        }
        r = Run.begin();
        for (int h = 0; h < 6; h++) r.does("head(0)");
        for (int d = 0; d < 5; d++) r.does("idea(0, 0)");
        r.due("deal() 5  asks(5) NOT  of(4, 8) 4").does("idea(0, 0)").due("of(5, 8) -1  deal() 6  of(5, 8) 5").does("idea(0, 0)")
            .due("deal() 6  of(6, 8) -1");
    }

    private static void led() {
        Doc.says("LED: STROKES done (what 0), in vain (1), ROADS (2), MILES (3), LAME (4). BAD.");
        Run r = Run.begin().due("led(MIN) BAD  led(-1) BAD  led(5) BAD  led(MAX) BAD  led(0) 0  led(1) 0  led(2) 0  led(3) 0  "
            + "led(4) 0");
        r.does("idea(0, 0) road(1, 9)").law("9").due("stroke(0, 0) 1  stroke(0, 2) 0  stroke(0, 2) 0  goes(0, 0) 9  "
            + "goes(0, 0) 2");
        r.due("led(0) 1  led(1) 2  led(2) 1  led(3) 11  led(4) 1");
    }

    private static void ledByLameOnes() {
        Doc.says("LED: STROKES done, in vain, ROADS gone to the end, MILES, LAME ones (as they became so).");
        // LAME at a ROAD's end: gone to the end, and LAME; NAILED and LAME again counts again; told LAME does not
        Run r = Run.begin().does("idea(0, 0) road(1, 1) mend(0, 4, 98) mend(0, 5, 9)").law("9");
        r.due("goes(0, 0) 1  led(2) 1  led(3) 1  led(4) 1  goes(0, 0) STATE  led(2) 1  led(3) 1  led(4) 1");
        r.due("stroke(0, 3) 1  goes(0, 0) 1  led(4) 1  of(0, 4) 98  goes(0, 0) 1  led(2) 3  led(4) 2")
            .does("mend(0, 4, 0) mend(0, 4, 99)").due("led(4) 2");
        // in thought nothing is led
        r.does("mend(0, 4, 98) row(0, 0, 1)").due("journey(0, 0, 2) 99  way(0, 1, -1) 99  drawn(1, 101, 0, 1) 0  "
            + "byTurns(0, 2, 0) 95  led(4) 2  led(3) 3");
    }

    private static void imageAndBack() {
        Doc.says("AN IMAGE keeps SHAPES, WORN, HEAT, HEATED, HEADS of IDEAS, what LED tells.");
        Doc.says("AN IMAGE is kept: MILES.");
        Doc.says("It is laid back (IDEAS that came since as they are): MILES. STATE: there is none.");
        Run.begin().due("back() STATE  back() STATE  image() 0  back() 0  back() 0").does("idea(1, 2) mend(0, 4, 5)")
            .due("back() 0  of(0, 2) 1  of(0, 3) 2  of(0, 4) 5");
        Run r = Run.begin().does("head(1) head(4)");
        for (int d = 0; d < 7; d++) r.does("idea(0, " + d % 6 + ") mend(" + d + ", 4, " + d + ") mend(" + d + ", 5, " + (9 - d)
            + ")");
        r.does("road(1, 3) mend(0, 8, 1) mend(6, 8, 0)").law("1").due("goes(6, 0) 3  stroke(0, 0) 1  image() 3");
        for (int d = 0; d < 7; d++) {
            r.does("mend(" + d + ", 3, 5) mend(" + d + ", 4, 99) mend(" + d + ", 5, 1) mend(" + d + ", 7, 9) mend(" + d
                + ", 2, 3) mend(" + d + ", 6, 1)");
        }
        r.does("mend(0, 8, -1) mend(6, 8, 1) idea(2, 3) mend(7, 4, 44) mend(7, 8, 1) mend(0, 1, 12)")
            .due("goes(7, 0) 3  stroke(7, 3) 0");
        r.due("led(0) 1  led(1) 1  led(2) 2  led(3) 6  back() 3  led(0) 1  led(1) 0  led(2) 1  led(3) 3  led(4) 0");
        for (int d = 0; d < 7; d++) {
            int worn = d == 6 ? 9 : d, heat = d == 0 ? 9 : d == 6 ? 2 : 9 - d;
            r.due("of(" + d + ", 3)", d % 6).due("of(" + d + ", 4)", worn).due("of(" + d + ", 5)", heat)
                .due("of(" + d + ", 7)", d == 0 ? 1 : 0);
            r.due("of(" + d + ", 8)", d == 0 ? 1 : d == 6 ? 0 : -1).due("of(" + d + ", 2) 3").due("of(" + d + ", 6) 1");
        }
        r.due("of(7, 3) 3  of(7, 4) 47  of(7, 8) 1  of(0, 1) 12  count(4) 40");
        // it stays to be laid back again, and the next one takes its place
        r.does("mend(0, 4, 50)").due("back() 3  of(0, 4) 0").does("mend(0, 4, 50)").due("image() 3")
            .does("mend(0, 4, 60) mend(7, 4, 1)").due("back() 3  of(0, 4) 50  of(7, 4) 47");
    }

    private static void sameNumberIsNone() {
        Doc.says("CHANGES (all numbers of mend(); telling the same number is none) can be UNDONE, the latest first,"
            + " and DONE AGAIN (as long as no other came behind);");
        Run r = Run.begin().does("head(3) idea(2, 3) road(1, 5)");
        int[] first = {3, 6, 2, 3, 0, 0, 0, 0, -1, 5, 0, 0};
        for (int what = 0; what < 12; what++) r.due("mend(0, " + what + ", " + first[what] + ")", first[what]);
        r.due("count(4) 0  undo() STATE  mend(0, 4, 7) 0  undo() 0").due("mend(0, 4, 0) 0  redo() 0  of(0, 4) 7  "
            + "mend(0, 4, 7) 7  undo() 0  of(0, 4) 0");
        r.due("mend(0, 4, 100) VOID  mend(1, 4, 5) VOID  redo() 0  of(0, 4) 7  redo() STATE");
    }

    private static void undone() {
        Doc.says("UNDONE: how many may still be. STATE: none.");
        Run r = Run.begin().due("undo() STATE").does("idea(0, 0)").due("undo() STATE  count(4) 0");
        r.does("mend(0, 4, 10) mend(0, 5, 1) mend(0, 4, 20)").due("count(4) 3  undo() 2  of(0, 4) 10  undo() 1  of(0, 5) 0  "
            + "of(0, 4) 10  undo() 0  of(0, 4) 0");
        r.due("count(4) 0  undo() STATE  undo() STATE  redo() 2  of(0, 4) 10  undo() 0  undo() STATE  of(0, 4) 0");
    }

    private static void doneAgain() {
        Doc.says("DONE AGAIN: how many may still be. STATE: none.");
        Run r = Run.begin().due("redo() STATE").does("idea(0, 0) mend(0, 4, 10)").due("redo() STATE")
            .does("mend(0, 4, 20) mend(0, 4, 30)");
        r.due("undo() 2  undo() 1  redo() 1  of(0, 4) 20  redo() 0  of(0, 4) 30  redo() STATE  count(4) 3  undo() 2  undo() 1  "
            + "undo() 0");
        r.due("redo() 2  redo() 1  mend(0, 4, 55) 20  redo() STATE  of(0, 4) 55  count(4) 3  undo() 2  of(0, 4) 20  undo() 1  "
            + "redo() 1  redo() 0  of(0, 4) 55");
    }

    private static void fortyKept() {
        Doc.says("40 at most are kept;");
        for (int changes : new int[] {39, 40, 41, 60, 99}) {
            int kept = Math.min(40, changes);
            Run r = Run.begin().does("idea(0, 0)");
            for (int i = 1; i <= changes; i++) r.due("mend(0, 4, " + i + ")", i - 1).due("count(4)", Math.min(40, i));
            for (int i = 1; i <= kept; i++) r.due("undo()", kept - i).due("of(0, 4)", changes - i);
            r.due("undo() STATE  count(4) 0").due("of(0, 4)", changes - kept);
            for (int i = 1; i <= kept; i++) r.due("redo()", kept - i).due("of(0, 4)", changes - kept + i);
            r.due("redo() STATE").due("count(4)", kept);
        }
        // of many numbers, so that each is laid back where it was
        Run many = Run.begin();
        for (int d = 0; d < 8; d++) many.does("idea(0, 0)");
        for (int i = 0; i < 43; i++) many.does("mend(" + i % 8 + ", " + (i % 2 == 0 ? 4 : 7) + ", " + (1 + i / 8) + ")");
        for (int i = 42; i >= 3; i--) many.due("undo()", i - 3).due("of(" + i % 8 + ", " + (i % 2 == 0 ? 4 : 7) + ")", i / 8);
        many.due("undo() STATE  of(0, 4) 1  of(1, 7) 1  of(2, 4) 1  of(3, 7) 0");
        for (int i = 3; i < 43; i++) many.due("redo()", 42 - i).due("of(" + i % 8 + ", " + (i % 2 == 0 ? 4 : 7) + ")", 1 + i / 8);
        // kept to the full, undone by one: another takes its place, and one more the first one's
        Run r = Run.begin().does("idea(0, 0)");
        for (int i = 1; i <= 40; i++) r.does("mend(0, 4, " + i + ")");
        r.due("undo() 39  mend(0, 4, 77) 39  count(4) 40  redo() STATE  mend(0, 4, 78) 77  count(4) 40");
        for (int i = 39; i >= 0; i--) r.due("undo()", i);
        r.due("of(0, 4) 1  undo() STATE");
    }

    private static void everyNumberUndone() {
        Doc.says("CHANGES (all numbers of mend();");
        int[] least = {0, 0, 0, 0, 0, 0, 0, 0, -1, 1, 0, 0}, most = {5, 12, 3, 5, 99, 9, 1, 9, 5, 9, 9, 2};
        int[] last = {5, 5, 7, 7, 7, 7, 7, 7, 7, 11, 11, 11};
        for (int what = 0; what < 12; what++) {
            Run r = Run.begin();
            for (int i = 0; i < 6; i++) r.does("head(0)");
            for (int i = 0; i < 8; i++) r.does("idea(0, 0)");
            for (int i = 0; i < 12; i++) r.does("road(1, 1)");
            String of = "of(" + last[what] + ", " + what + ")", mend = "mend(" + last[what] + ", " + what + ", ";
            long first = r.ask(of);
            r.due(mend + most[what] + ")", first).due(mend + least[what] + ")", most[what]);
            r.due("undo() 1").due(of, most[what]).due("undo() 0").due(of, first);
            r.due("redo() 1").due(of, most[what]).due("redo() 0").due(of, least[what]);
        }
    }

    private static void deedsAreNone() {
        Doc.says("deeds are none (SHAPE, WORN, HEAT, HEATED, HEAD by them, too).");
        Run r = Run.begin().does("head(2) idea(0, 0) road(1, 9) mend(0, 4, 30) mend(0, 5, 4) mend(0, 5, 5)").law("1")
            .due("undo() 2");
        r.due("stroke(0, 0) 1  stroke(0, 1) 1  stroke(0, 3) 1  goes(0, 0) 9  deal() 1  image() 9  back() 9  count(4) 2");
        r.due("of(0, 3) 1  of(0, 4) 29  of(0, 5) 3  of(0, 7) 1  of(0, 8) 0  redo() 0  of(0, 5) 5  of(0, 3) 1  of(0, 4) 29");
        r.due("undo() 2  of(0, 5) 4  undo() 1  of(0, 5) 0  undo() 0  of(0, 4) 0  undo() STATE  of(0, 3) 1  of(0, 7) 1  "
            + "of(0, 8) 0  led(0) 3");
    }

    private static void mendsRefused() {
        Doc.says("FORM (what 0), WILL (1) of a HEAD, METAL (2), SHAPE (3), WORN (4), HEAT (5), CAST (6), HEATED (7), HEAD (8) "
            + "of an IDEA,"
            + " MILES (9), STEEP (10), KIND (11) of a ROAD becomes v: what it was. VOID: BAD.");
        Run r = Run.begin().does("head(0) idea(0, 0) road(1, 1)");
        for (String what : new String[] {"MIN", "-1", "12", "13", "14", "15", "MAX"}) {
            for (String v : new String[] {"0", "1", "7"}) r.due("mend(0, " + what + ", " + v + ") VOID");
        }
        // numbers of HEADS, IDEAS and ROADS are their own: two, three and four of them
        r.does("head(1) idea(1, 1) idea(2, 2) road(12, 2) road(23, 3) road(34, 4)");
        int[] there = {2, 2, 3, 3, 3, 3, 3, 3, 3, 4, 4, 4};
        for (int what = 0; what < 12; what++) {
            r.due("mend(" + there[what] + ", " + what + ", 1)", ColdShod.VOID).due("of(" + there[what] + ", " + what
                + ")", ColdShod.VOID);
            long was = r.ask("of(" + (there[what] - 1) + ", " + what + ")");
            r.due("mend(" + (there[what] - 1) + ", " + what + ", 1)", was).due("of(" + (there[what] - 1) + ", " + what + ") 1");
        }
    }

    private static void ofRefused() {
        Doc.says("As of mend() (0 to 11); of a ROAD 12 FROM, 13 TO, of an IDEA 14 GRIP. VOID: BAD.");
        Run r = Run.begin();
        for (int what = 0; what <= 14; what++) r.due("of(0, " + what + ") VOID");
        r.does("head(1) idea(2, 3) road(45, 6)");
        int[] want = {1, 6, 2, 3, 0, 0, 0, 0, -1, 6, 0, 0, 4, 5, 9};
        for (int what = 0; what <= 14; what++) {
            r.due("of(0, " + what + ")", want[what]);
            for (String number : new String[] {"MIN", "-1", "1", "MAX"}) r.due("of(" + number + ", " + what + ") VOID");
        }
        r.due("of(0, MIN) VOID  of(0, -1) VOID  of(0, 15) VOID  of(0, MAX) VOID");
        // ROADS alone: 9 to 13 are of them, 14 is not
        Run.begin().does("road(1, 1) road(23, 2)").due("of(1, 9) 2  of(1, 12) 2  of(1, 13) 3  of(1, 14) VOID  of(0, 14) VOID  "
            + "of(2, 13) VOID");
    }
}
