/** Every call that is refused: of several answers the one named first, and nothing is changed by it. */
final class AnswersBounds {
    private static final Scene BARE = Scene.bare(), FURNISHED = Scene.furnished(), FILLED = Scene.filled();
    private static final String[] OUTSIDE_SHELVES = {"MIN", "-1", "6", "MAX"};

    private AnswersBounds() {
    }

    static void all() {
        constants();
        headsIdeasRoads();
        roadsFromRows();
        numbers();
        tape();
        wears();
        journeys();
        ways();
        headsForIdeas();
        edges();
        deeds();
        undone();
        bodies();
        shelves();
        thoughtsChangeNothing();
        inVain();
        faultsEmptyTheTape();
        actsRefused();
    }

    private static void constants() {
        Doc.says("BAD (-1): no such number, or it is not as said; NOT (-2): as told; FULL (-3); STATE (-5): as told; -11 to -14."
            + " VOID is -2000000000.");
        Due.due("BAD", ColdShod.BAD, -1);
        Due.due("NOT", ColdShod.NOT, -2);
        Due.due("FULL", ColdShod.FULL, -3);
        Due.due("STATE", ColdShod.STATE, -5);
        Due.due("VOID", ColdShod.VOID, -2000000000);
    }

    private static void headsIdeasRoads() {
        Doc.says("Answers, of several the one named first:");
        Doc.says("What is answered so changes nothing.");
        Doc.says("A HEAD of a FORM: its number. BAD, FULL: 6.");
        for (Scene scene : new Scene[] {BARE, FURNISHED, FILLED}) scene.refuses("head(MIN) BAD  head(-1) BAD  head(6) BAD  "
            + "head(MAX) BAD");
        FILLED.refuses("head(0) FULL  head(5) FULL");
        Doc.says("An IDEA: its number. BAD, FULL: 8.");
        for (Scene scene : new Scene[] {BARE, FURNISHED, FILLED}) {
            scene.refuses("idea(MIN, 0) BAD  idea(-1, 0) BAD  idea(4, 5) BAD  idea(MAX, 5) BAD  idea(0, MIN) BAD  idea(0, -1) "
                + "BAD  idea(3, 6) BAD  idea(3, MAX) BAD");
            scene.refuses("idea(4, 6) BAD  idea(-1, -1) BAD  idea(4, -1) BAD  idea(-1, 6) BAD");
        }
        FILLED.refuses("idea(0, 0) FULL  idea(3, 5) FULL");
        Doc.says("A ROAD: its number. BAD, FULL: 12.");
        for (Scene scene : new Scene[] {BARE, FURNISHED, FILLED}) {
            scene.refuses("road(MIN, 1) BAD  road(-1, 1) BAD  road(0, 1) BAD  road(8, 1) BAD  road(11, 1) BAD  road(77, 1) BAD  "
                + "road(78, 1) BAD  road(80, 1) BAD  road(MAX, 1) BAD");
            scene.refuses("road(1, MIN) BAD  road(1, -1) BAD  road(1, 0) BAD  road(76, 10) BAD  road(76, MAX) BAD  road(0, 0) "
                + "BAD  road(88, 10) BAD");
        }
        FILLED.refuses("road(1, 1) FULL  road(76, 9) FULL");
    }

    private static void roadsFromRows() {
        Doc.says("BAD, -12 (no ROW of bytes; a SHELF that holds nothing is missing).");
        for (Scene scene : new Scene[] {BARE, FURNISHED, FILLED}) {
            for (String shelf : OUTSIDE_SHELVES) scene.refuses("roads(" + shelf + ", 0, 1) BAD  roads(" + shelf + ", -1, 0) BAD");
            for (int shelf = 0; shelf < 6; shelf++) {
                String at = "roads(" + shelf + ", 0, ";
                scene.refuses(at + "MIN) BAD  " + at + "-1) BAD  " + at + "0) BAD  " + at + "13) BAD  " + at + "MAX) BAD");
            }
        }
        for (String place : new String[] {"0", "-1", "60", "MIN", "MAX"}) {
            FURNISHED.refuses("roads(1, " + place + ", 1) -12  roads(2, " + place + ", 12) -12  roads(5, " + place + ", 1) -12  "
                + "roads(3, " + place + ", 12) 0");
            for (int shelf = 1; shelf <= 4; shelf++) FILLED.refuses("roads(" + shelf + ", " + place + ", 12) -12");
            BARE.refuses("roads(0, " + place + ", 12) 0  roads(5, " + place + ", 1) 0");
            FILLED.refuses("roads(0, " + place + ", 12) 0  roads(5, " + place + ", 1) 0");
        }
        FURNISHED.refuses("roads(0, -1, 1) 0  roads(0, MIN, 1) 0  roads(0, 6, 1) 0  roads(0, 8, 1) 0  roads(0, MAX, 12) 0  "
            + "roads(4, 0, 1) 0");
    }

    private static void numbers() {
        Doc.says("becomes v: what it was. VOID: BAD.");
        int[] least = {0, 0, 0, 0, 0, 0, 0, 0, -1, 1, 0, 0}, most = {5, 12, 3, 5, 99, 9, 1, 9, 2, 9, 9, 2};
        int[] there = {3, 3, 4, 4, 4, 4, 4, 4, 4, 4, 4, 4};
        for (int what = 0; what < 12; what++) {
            for (String v : new String[] {"MIN", "" + (least[what] - 1), "" + (most[what] + 1), "MAX"}) {
                FURNISHED.refuses("mend(0, " + what + ", " + v + ")", ColdShod.VOID);
                FURNISHED.refuses("mend(" + (there[what] - 1) + ", " + what + ", " + v + ")", ColdShod.VOID);
            }
            for (String number : new String[] {"MIN", "-1", "" + there[what], "MAX"}) {
                FURNISHED.refuses("mend(" + number + ", " + what + ", " + least[what] + ")", ColdShod.VOID);
                FURNISHED.refuses("mend(" + number + ", " + what + ", " + (most[what] + 1) + ")", ColdShod.VOID);
                FURNISHED.refuses("of(" + number + ", " + what + ")", ColdShod.VOID);
            }
            BARE.refuses("mend(0, " + what + ", 1)", ColdShod.VOID);
            FILLED.refuses("mend(12, " + what + ", 1)", ColdShod.VOID);
        }
        for (String what : new String[] {"MIN", "-1", "12", "13", "14", "15", "MAX"}) {
            FURNISHED.refuses("mend(0, " + what + ", 0)", ColdShod.VOID);
            FURNISHED.refuses("mend(0, " + what + ", 1)", ColdShod.VOID);
            FURNISHED.refuses("mend(9, " + what + ", 1)", ColdShod.VOID);
        }
        Doc.says("telling the same number is none");
        for (int what = 0; what < 12; what++) {
            for (int number = 0; number < 3; number++) {
                long now = FURNISHED.make().ask("of(" + number + ", " + what + ")");
                FURNISHED.refuses("mend(" + number + ", " + what + ", " + now + ")", now);
            }
        }
        Doc.says("of a ROAD 12 FROM, 13 TO, of an IDEA 14 GRIP. VOID: BAD.");
        FURNISHED.refuses("of(0, MIN) VOID  of(0, -1) VOID  of(0, 15) VOID  of(0, MAX) VOID  of(4, 12) VOID  of(-1, 13) VOID  "
            + "of(4, 14) VOID  of(-1, 14) VOID");
    }

    private static void tape() {
        Doc.says("A byte (0 .. 255) comes to THE TAPE: how many it has. BAD, FULL (120).");
        for (Scene scene : new Scene[] {BARE, FURNISHED, FILLED}) scene.refuses("feed(MIN) BAD  feed(-1) BAD  feed(256) BAD  "
            + "feed(MAX) BAD");
        FILLED.refuses("feed(0) FULL  feed(49) FULL  feed(255) FULL");
    }

    private static void wears() {
        Doc.says("By how much an IDEA would be WORN in a mile of a ROAD now. BAD.");
        BARE.refuses("wears(0, 0) BAD");
        FURNISHED.refuses("wears(MIN, 0) BAD  wears(-1, 0) BAD  wears(4, 0) BAD  wears(MAX, 0) BAD  wears(0, MIN) BAD  "
            + "wears(0, -1) BAD  wears(0, 4) BAD  wears(3, MAX) BAD  wears(4, 4) BAD");
        FILLED.refuses("wears(8, 11) BAD  wears(7, 12) BAD  wears(-1, 11) BAD  wears(7, -1) BAD");
    }

    private static void journeys() {
        Doc.says("---- journeys (a JOURNEY on a SHELF: BAD, -11, -12 (no ROW of bytes)).");
        for (String shelf : OUTSIDE_SHELVES) {
            FURNISHED.refuses("journey(" + shelf + ", 0, 0) BAD  strokes(" + shelf + ", 0, -1) BAD  journey(" + shelf + ", 4, 5) "
                + "BAD  strokes(" + shelf + ", 4, -2) BAD");
        }
        // on a SHELF with bytes, with shorts, with a SMITH, with nothing: BAD stays the first
        for (int shelf : new int[] {0, 1, 2, 3}) {
            String journey = "journey(" + shelf + ", ", strokes = "strokes(" + shelf + ", ";
            FURNISHED.refuses(journey + "MIN, 0) BAD  " + journey + "-1, 0) BAD  " + journey + "4, 0) BAD  " + journey
                + "MAX, 0) BAD");
            FURNISHED.refuses(journey + "0, MIN) BAD  " + journey + "0, -1) BAD  " + journey + "0, 5) BAD  " + journey
                + "0, MAX) BAD");
            FURNISHED.refuses(strokes + "MIN, 0) BAD  " + strokes + "-1, 0) BAD  " + strokes + "4, -1) BAD  " + strokes
                + "MAX, 0) BAD  " + strokes + "0, -2) BAD  " + strokes + "1, MIN) BAD");
            int want = shelf == 0 ? 0 : shelf == 3 ? -11 : -12;
            if (want == 0) continue;
            for (int what = 0; what <= 4; what++) FURNISHED.refuses(journey + "0, " + what + ")", want);
            for (String k : new String[] {"-1", "0", "4", "MAX"}) FURNISHED.refuses(strokes + "1, " + k + ")", want);
        }
        Doc.says("STROKES FOR it: how many (k -1), the k-th (NOT: there are not as many). NOT.");
        FURNISHED.refuses("strokes(0, 1, -1) NOT  strokes(0, 1, 0) NOT  strokes(0, 1, 4) NOT  strokes(0, 1, MAX) NOT");
    }

    private static void ways() {
        Doc.says("LEAST WORN: WORN (k -1), how many ROADS (-2), the k-th (NOT: there are not as many). BAD; NOT.");
        for (String k : new String[] {"-2", "-1", "0", "MAX"}) {
            BARE.refuses("way(0, 1, " + k + ") BAD");
            FURNISHED.refuses("way(MIN, 1, " + k + ") BAD  way(-1, 1, " + k + ") BAD  way(4, 1, " + k + ") BAD  way(MAX, 1, " + k
                + ") BAD");
            FURNISHED.refuses("way(0, MIN, " + k + ") BAD  way(0, -1, " + k + ") BAD  way(0, 0, " + k + ") BAD  way(0, 8, " + k
                + ") BAD  way(0, 77, " + k + ") BAD  way(0, 80, " + k + ") BAD");
            FURNISHED.refuses("way(0, 47, " + k + ") NOT  way(1, 1, " + k + ") NOT");
        }
        FURNISHED.refuses("way(0, 1, MIN) BAD  way(0, 1, -3) BAD  way(0, 47, -3) BAD  way(4, 47, -3) BAD  way(0, 1, 7) NOT  "
            + "way(0, 1, MAX) NOT");
        Doc.says("REACH: bits. BAD.");
        BARE.refuses("reach(0, 0) BAD");
        FURNISHED.refuses("reach(MIN, 0) BAD  reach(-1, 0) BAD  reach(4, 0) BAD  reach(MAX, 0) BAD  reach(0, MIN) BAD  "
            + "reach(0, -1) BAD  reach(0, 8) BAD  reach(0, MAX) BAD  reach(4, 8) BAD");
    }

    private static void headsForIdeas() {
        Doc.says("Which IDEA a HEAD has, all asking. BAD; NOT.");
        BARE.refuses("asks(0) BAD");
        FURNISHED.refuses("asks(MIN) BAD  asks(-1) BAD  asks(3) BAD  asks(MAX) BAD");
        FILLED.refuses("asks(6) BAD  asks(-1) BAD");
        Doc.says("YOKES (what 0), CLASH: how many (1), which (2). BAD.");
        FURNISHED.refuses("yokes(MIN) BAD  yokes(-1) BAD  yokes(3) BAD  yokes(MAX) BAD");
    }

    private static void edges() {
        Doc.says("(ss: 10 times the SHELF of the JOURNEY, and that of WORN: BAD, -11, -12; the JOURNEY first)");
        for (String ss : new String[] {"MIN", "-1", "6", "46", "60", "64", "66", "104", "MAX"}) {
            FURNISHED.refuses("judge(" + ss + ", 0) BAD  edge(" + ss + ", 0, 0) BAD  judge(" + ss + ", 4) BAD  edge(" + ss
                + ", 4, 2) BAD");
        }
        // the JOURNEY on SHELF 0 (bytes), 1 (shorts), 2 (a SMITH), 3 (nothing), and WORN so, too
        int[] held = {0, -12, -12, -11};
        for (int journey = 0; journey < 4; journey++) {
            for (int worn = 0; worn < 4; worn++) {
                int want = held[journey] != 0 ? held[journey] : held[worn];
                String ss = "" + (10 * journey + worn);
                FURNISHED.refuses("judge(" + ss + ", 4) BAD  judge(" + ss + ", -1) BAD  edge(" + ss + ", 0, -1) BAD  edge(" + ss
                    + ", 0, 2) BAD  edge(" + ss + ", 4, 0) BAD");
                if (want == 0) continue;
                FURNISHED.refuses("judge(" + ss + ", 0)", want);
                FURNISHED.refuses("edge(" + ss + ", 0, 0)", want);
                FURNISHED.refuses("edge(" + ss + ", 3, 1)", want);
            }
        }
        Doc.says("BY TURNS: that (what 0), the smith's first (1). BAD.");
        FURNISHED.refuses("byTurns(-1, 1, 0) BAD  byTurns(4, 1, 0) BAD  byTurns(0, 0, 0) BAD  byTurns(0, 6, 0) BAD  "
            + "byTurns(0, MIN, 0) BAD  byTurns(0, MAX, 0) BAD  byTurns(0, 1, -1) BAD  byTurns(0, 5, 2) BAD");
        BARE.refuses("byTurns(0, 1, 0) BAD  drawn(0, 101, 0, 0) BAD  judge(0, 0) BAD  edge(0, 0, 0) BAD");
        Doc.says("DRAWN (nm: 100 n and m): MILES (what 0), LAME ends (1). BAD.");
        FURNISHED.refuses("drawn(5, 100, 0, 0) BAD  drawn(5, 141, 0, 0) BAD  drawn(5, 1, 0, 0) BAD  drawn(5, 3101, 0, 0) BAD  "
            + "drawn(5, -101, 0, 0) BAD  drawn(5, MIN, 0, 0) BAD  drawn(5, MAX, 0, 0) BAD");
        FURNISHED.refuses("drawn(5, 101, -1, 0) BAD  drawn(5, 101, 4, 0) BAD  drawn(5, 101, 0, -1) BAD  drawn(5, 101, 0, 2) BAD  "
            + "drawn(5, 141, 4, 2) BAD");
    }

    private static void deeds() {
        Doc.says("A STROKE (0 .. 3): 1 done, 0 in vain (nothing changed). BAD.");
        BARE.refuses("stroke(0, 0) BAD  goes(0, 0) BAD");
        FURNISHED.refuses("stroke(MIN, 0) BAD  stroke(-1, 0) BAD  stroke(4, 0) BAD  stroke(MAX, 3) BAD  stroke(0, MIN) BAD  "
            + "stroke(0, -1) BAD  stroke(0, 4) BAD  stroke(0, MAX) BAD  stroke(4, 4) BAD");
        FILLED.refuses("stroke(8, 0) BAD  stroke(7, 4) BAD  goes(8, 0) BAD  goes(7, 12) BAD");
        Doc.says("An IDEA GOES a ROAD: MILES gone. BAD; STATE: it is LAME, or cannot CLIMB it.");
        FURNISHED.refuses("goes(MIN, 0) BAD  goes(-1, 0) BAD  goes(4, 0) BAD  goes(MAX, 0) BAD  goes(0, MIN) BAD  goes(0, -1) "
            + "BAD  goes(0, 4) BAD  goes(0, MAX) BAD");
        // IDEA 1 is LAME: BAD is named first; ROAD 3 is too steep for IDEA 0, and IDEA 1 is LAME besides
        FURNISHED.refuses("goes(1, 4) BAD  goes(1, -1) BAD  goes(1, 0) STATE  goes(1, 3) STATE  goes(0, 3) STATE");
        Doc.says("LED: STROKES done (what 0), in vain (1), ROADS (2), MILES (3), LAME (4). BAD.");
        FURNISHED.refuses("led(MIN) BAD  led(-1) BAD  led(5) BAD  led(MAX) BAD");
        Doc.says("STATE: there is none.");
        BARE.refuses("back() STATE");
    }

    private static void undone() {
        Doc.says("UNDONE: how many may still be. STATE: none.");
        BARE.refuses("undo() STATE");
        Doc.says("DONE AGAIN: how many may still be. STATE: none.");
        BARE.refuses("redo() STATE");
        FILLED.refuses("redo() STATE");
    }

    private static void bodies() {
        Doc.says("A SMITH of a KIND (0 .. 7) is kept: its number. BAD, FULL.");
        for (Scene scene : new Scene[] {BARE, FURNISHED, FILLED}) scene.refuses("body(MIN) BAD  body(-1) BAD  body(8) BAD  "
            + "body(MAX) BAD");
        FILLED.refuses("body(0) FULL  body(7) FULL");
        Doc.says("THE TRACE's i-th body. BAD.");
        BARE.refuses("trace(0) BAD  trace(-1) BAD");
        FURNISHED.refuses("trace(MIN) BAD  trace(-1) BAD  trace(14) BAD  trace(24) BAD  trace(MAX) BAD");
        Doc.says("A SHELF holds nothing (body -1), or a SMITH: 1. BAD.");
        BARE.refuses("keep(0, 0) BAD");
        for (Scene scene : new Scene[] {BARE, FURNISHED, FILLED}) {
            for (String shelf : OUTSIDE_SHELVES) scene.refuses("keep(" + shelf + ", 0) BAD  keep(" + shelf + ", -1) BAD  keep("
                + shelf + ", -2) BAD");
            for (int shelf = 0; shelf < 6; shelf++) scene.refuses("keep(" + shelf + ", MIN) BAD  keep(" + shelf + ", -2) BAD  "
                + "keep(" + shelf + ", 50) BAD  keep(" + shelf + ", MAX) BAD");
        }
        FURNISHED.refuses("keep(0, 8) BAD  keep(2, 8) BAD  keep(3, 8) BAD");
        Doc.says("taken for a SMITH of KIND k (0 .. 7), or under it: its KIND. BAD, -11, -12.");
        for (int shelf = 0; shelf < 6; shelf++) FURNISHED.refuses("taken(" + shelf + ", MIN) BAD  taken(" + shelf + ", -1) BAD  "
            + "taken(" + shelf + ", 8) BAD  taken(" + shelf + ", MAX) BAD");
        for (String shelf : OUTSIDE_SHELVES) FURNISHED.refuses("taken(" + shelf + ", 0) BAD  taken(" + shelf + ", 8) BAD");
        FURNISHED.refuses("taken(0, 0) -12  taken(1, 7) -12  taken(3, 0) -11  taken(3, 7) -11  taken(2, 1) -12  taken(2, 4) -12  "
            + "taken(2, 6) -12  taken(2, 7) -12");
        Doc.says("How many: 0 HEADS, 1 IDEAS, 2 ROADS, 3 bytes on THE TAPE, 4 changes that may be UNDONE, 5 BODIES, 6 bodies that ran");
        FURNISHED.refuses("count(MIN) BAD  count(-1) BAD  count(7) BAD  count(MAX) BAD");
    }

    private static void shelves() {
        Doc.says("The host's REFUSALS: -11 nothing is there where something is wanted; -12 it is of another kind; -13 a place that is not"
            + " there; -14 a size below 0.");
        for (Scene scene : new Scene[] {BARE, FURNISHED, FILLED}) {
            for (String shelf : OUTSIDE_SHELVES) {
                scene.refuses("row(" + shelf + ", 0, 1) BAD  row(" + shelf + ", 0, -1) BAD  put(" + shelf + ", 0, 1) BAD  "
                    + "element(" + shelf + ", 0) LMIN");
                scene.refuses("shift(" + shelf + ", 0, 0, 0, 0) BAD  shift(0, 0, " + shelf + ", 0, 0) BAD  shift(" + shelf
                    + ", -1, 3, 0, -1) BAD");
            }
            for (int shelf = 0; shelf < 6; shelf++) {
                String row = "row(" + shelf + ", ";
                scene.refuses(row + "MIN, 1) BAD  " + row + "-1, 1) BAD  " + row + "5, 1) BAD  " + row + "MAX, 1) BAD  " + row
                    + "0, 61) BAD  " + row + "4, MAX) BAD");
                scene.refuses(row + "5, -1) BAD  " + row + "-1, MIN) BAD  " + row + "5, 61) BAD  " + row + "0, -1) -14  " + row
                    + "4, -1) -14  " + row + "2, MIN) -14");
            }
        }
        for (String i : new String[] {"MIN", "-1", "0", "60", "MAX"}) {
            FURNISHED.refuses("put(3, " + i + ", 1) -11  put(2, " + i + ", 1) -12  element(3, " + i + ") LMIN  element(2, " + i
                + ") LMIN");
            if (!i.equals("0")) FURNISHED.refuses("put(0, " + i + ", 1) -13  put(5, " + i + ", 1) -13  element(0, " + i + ") "
                + "LMIN");
        }
        FURNISHED.refuses("put(0, 8, 1) -13  put(1, 3, 1) -13  element(0, 8) LMIN  element(1, 3) LMIN");
        FILLED.refuses("put(5, 60, 1) -13  put(5, -1, 1) -13  element(5, 60) LMIN");
        Doc.says("BAD, -11 (either), -12 (no ROWS, or of unlike sorts), -13.");
        FURNISHED.refuses("shift(3, 0, 0, 0, 1) -11  shift(0, 0, 3, 0, 1) -11  shift(3, 0, 3, 0, 0) -11  "
            + "shift(2, 0, 3, 0, 1) -11  shift(3, -1, 2, -1, -1) -11");
        FURNISHED.refuses("shift(2, 0, 0, 0, 1) -12  shift(0, 0, 2, 0, 1) -12  shift(2, 0, 2, 0, 0) -12  "
            + "shift(0, 0, 1, 0, 1) -12  shift(5, 0, 1, 0, 1) -12  shift(0, -1, 5, -1, -1) -12");
        FURNISHED.refuses("shift(0, -1, 4, 0, 1) -13  shift(0, 0, 4, -1, 1) -13  shift(0, 0, 4, 0, -1) -13  "
            + "shift(0, 0, 4, 0, 4) -13  shift(0, 6, 4, 0, 3) -13  shift(0, 0, 4, 2, 2) -13");
        FURNISHED.refuses("shift(0, 9, 4, 0, 0) -13  shift(0, 0, 4, 4, 0) -13  shift(0, MAX, 4, 0, MAX) -13  "
            + "shift(0, 1, 0, 0, 8) -13  shift(0, 0, 0, 1, 8) -13  shift(0, 0, 4, 0, MIN) -13");
        FURNISHED.refuses("shift(0, 8, 4, 3, 0) 0  shift(0, 2, 0, 2, 6) 6");
    }

    private static void thoughtsChangeNothing() {
        Doc.says("IN THOUGHT, of an IDEA, from now, by a JOURNEY:");
        for (int idea = 0; idea < 4; idea++) {
            for (int what = 0; what <= 4; what++) FURNISHED.changesNothing("journey(0, " + idea + ", " + what + ")");
            for (int k = -1; k <= 1; k++) FURNISHED.changesNothing("strokes(0, " + idea + ", " + k + ")");
            for (int k = -2; k <= 1; k++) FURNISHED.changesNothing("way(" + idea + ", 3, " + k + ")");
            for (int n = 1; n <= 5; n++) FURNISHED.changesNothing("byTurns(" + idea + ", " + n + ", " + n % 2 + ")");
            for (int what = 0; what <= 1; what++) {
                FURNISHED.changesNothing("edge(4, " + idea + ", " + what + ")");
                FURNISHED.changesNothing("drawn(9, 3040, " + idea + ", " + what + ")");
            }
            FURNISHED.changesNothing("judge(4, " + idea + ")");
            FURNISHED.changesNothing("reach(" + idea + ", 0)");
            FURNISHED.changesNothing("wears(" + idea + ", 2)");
        }
        for (int head = 0; head < 3; head++) FURNISHED.changesNothing("asks(" + head + ")");
        for (int what = 0; what <= 2; what++) FURNISHED.changesNothing("yokes(" + what + ")");
        for (String call : new String[] {"settled()", "led(3)", "count(4)", "trace(0)", "element(0, 0)", "taken(2, 0)",
            "of(0, 14)"}) {
            for (Scene scene : new Scene[] {BARE, FURNISHED, FILLED}) scene.changesNothing(call);
        }
        for (int idea = 0; idea < 8; idea++) {
            FILLED.changesNothing("way(" + idea + ", 7, -1)");
            FILLED.changesNothing("drawn(-9, 3040, " + idea + ", 0)");
            FILLED.changesNothing("strokes(5, " + idea + ", -1)");
            FILLED.changesNothing("edge(50, " + idea + ", 1)");
        }
    }

    private static void inVain() {
        Doc.says("What cannot be done changes nothing.");
        // but that it is led as in vain
        Run r = FURNISHED.make();
        long vain = r.ask("led(1)"), done = r.ask("led(0)");
        r.due("stroke(1, 1) 0  stroke(1, 2) 0  stroke(1, 3) 0  stroke(2, 0) 0  stroke(2, 3) 0").due("led(1)", vain + 5)
            .due("led(0)", done);
        for (int what = 2; what <= 8; what++) {
            r.due("of(1, " + what + ")", FURNISHED.make().ask("of(1, " + what + ")"));
            r.due("of(2, " + what + ")", FURNISHED.make().ask("of(2, " + what + ")"));
        }
    }

    private static void faultsEmptyTheTape() {
        Doc.says("-100 less its FAULT; THE TAPE is empty then.");
        // the scene's TAPE ends too early, yet its 120 bytes go with the FAULT; then there is room again
        FILLED.make().due("count(3) 120  law() -220  count(3) 0  feed(49) 1  law() 1  wears(0, 0) 1");
        FURNISHED.make().due("feed(43) 4  law() -104  count(3) 0  law() -100  count(4) 11");
    }

    private static void actsRefused() {
        Doc.says("0, and no TRACE then: no such SMITH, ACT.");
        for (String call : new String[] {"act(8, 0, 5)", "act(-1, 0, 5)", "act(0, 4, 5)", "act(0, -1, 5)", "act(MIN, MIN, MIN)",
            "act(MAX, MAX, MAX)"}) {
            FURNISHED.make().due("count(6) 14").due(call, 0).due("count(6) 0  trace(0) BAD  count(5) 8  taken(2, 5) 5  "
                + "act(7, 0, 5) 15  count(6) 2");
        }
    }
}
