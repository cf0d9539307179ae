/** Promises 11 to 14: JOURNEYS, STROKES FOR them, LEAST WORN ways, REACH. */
public final class JourneysTest {
    public static void main(String[] args) {
        refusals();
        journeys();
        journeyEnds();
        climbing();
        goingLame();
        strokesFewest();
        strokesByShape();
        ways();
        waysOfLikeWear();
        waysBySteepness();
        reaches();
        Due.end();
    }

    /** An IDEA of SHAPE 0 without a HEAD that is WORN 1 a mile. */
    private static ColdShod oneAMile() {
        ColdShod x = new ColdShod();
        x.idea(0, 0);
        Due.lawOf(x, "1");
        return x;
    }

    private static void refusals() {
        ColdShod x = oneAMile();
        x.body(0);
        for (int shelf : new int[] {-1, 6}) {
            Due.due("journey by no shelf", x.journey(shelf, 0, 0), -1);
            Due.due("strokes by no shelf", x.strokes(shelf, 0, -1), -1);
        }
        Due.due("journey of a shelf with nothing", x.journey(5, 0, 0), -11);
        Due.due("strokes of a shelf with nothing", x.strokes(5, 0, -1), -11);
        Due.due("BAD ahead of -11: idea", x.journey(5, 1, 0), -1);
        Due.due("BAD ahead of -11: what", x.journey(5, 0, 5), -1);
        Due.due("BAD ahead of -11: k", x.strokes(5, 0, -2), -1);
        x.keep(5, 0);
        Due.due("journey of a smith", x.journey(5, 0, 0), -12);
        Due.due("strokes of a smith", x.strokes(5, 0, 0), -12);
        for (int sort = 1; sort <= 4; sort++) {
            x.row(5, sort, 2);
            Due.due("journey of another row", x.journey(5, 0, 0), -12);
            Due.due("strokes of another row", x.strokes(5, 0, 9), -12);
        }
        x.row(5, 0, 0);
        Due.due("journey what -1", x.journey(5, 0, -1), -1);
        Due.due("journey idea -1", x.journey(5, -1, 0), -1);
        Due.due("strokes idea 1", x.strokes(5, 1, 0), -1);
        Due.due("way idea 1", x.way(1, 1, -1), -1);
        Due.due("way k -3", x.way(0, 1, -3), -1);
        for (int ft : new int[] {-1, 0, 55, 8, 80, 100}) Due.due("way " + ft, x.way(0, ft, -1), -1);
        Due.due("reach idea 1", x.reach(1, 0), -1);
        Due.due("reach place -1", x.reach(0, -1), -1);
        Due.due("reach place 8", x.reach(0, 8), -1);
        Due.due("reach place MAX", x.reach(0, Integer.MAX_VALUE), -1);
    }

    private static void journeyIs(ColdShod x, int idea, int... want) {
        for (int what = 0; what < want.length; what++) {
            Due.due("journey(0, " + idea + ", " + what + ")", x.journey(0, idea, what), want[what]);
        }
    }

    private static void journeys() {
        ColdShod x = oneAMile();
        x.road(1, 3);
        x.road(67, 5);
        Due.bytes(x, 0, 0, 1, 0, 0);
        x.mend(0, 5, 3);
        journeyIs(x, 0, 14, 4, 14, 0, -2);
        x.mend(0, 5, 9);
        journeyIs(x, 0, 14, 4, 14, 5, -2);
        Due.due("in thought alone: WORN", x.of(0, 4), 0);
        Due.due("in thought alone: HEAT", x.of(0, 5), 9);
        Due.due("in thought alone: MILES", x.led(3), 0);
    }

    private static void journeyEnds() {
        ColdShod x = oneAMile();
        x.road(1, 1);
        x.row(0, 0, 60);
        journeyIs(x, 0, 20, 20, 20, 0, -2);
        x.put(0, 4, 1);
        journeyIs(x, 0, 4, 4, 4, 0, -2);
        x.put(0, 2, -1);
        journeyIs(x, 0, 2, 2, 2, 0, -2);
        x.road(2, 2);
        x.put(0, 2, 1);
        journeyIs(x, 0, 22, 20, 22, 0, -2);
        Due.bytes(x, 0, 12);
        journeyIs(x, 0, 0, 0, 0, 0, -2);
        x.row(0, 0, 0);
        journeyIs(x, 0, 0, 0, 0, 0, -2);
    }

    private static void climbing() {
        ColdShod x = oneAMile();
        x.road(1, 9);
        x.road(12, 9);
        x.mend(1, 10, 8);
        Due.bytes(x, 0, 0, 1, 1, 0);
        // WORN 9: GRIP 9; WORN 18: GRIP 8, STEEP 8 can be climbed; WORN 27: GRIP 7
        journeyIs(x, 0, 36, 4, 36, 0, -2);
        x.mend(1, 10, 9);
        journeyIs(x, 0, 18, 2, 18, 0, 2);
        x.mend(0, 4, 2);
        journeyIs(x, 0, 9, 1, 11, 0, 1);
    }

    private static void goingLame() {
        ColdShod x = oneAMile();
        x.road(1, 2);
        Due.bytes(x, 0, 0, 0);
        x.mend(0, 5, 5);
        x.mend(0, 4, 98);
        journeyIs(x, 0, 1, 0, 99, 5, 0);
        x.mend(0, 4, 97);
        journeyIs(x, 0, 2, 1, 99, 4, 1);
        x.mend(0, 4, 95);
        journeyIs(x, 0, 4, 2, 99, 3, -2);
        x.mend(0, 4, 99);
        journeyIs(x, 0, 0, 0, 99, 5, 0);
        Due.lawOf(x, "0");
        journeyIs(x, 0, 0, 0, 99, 5, 0);
        x.mend(0, 4, 98);
        journeyIs(x, 0, 4, 2, 98, 3, -2);
    }

    private static void strokesAre(ColdShod x, int... want) {
        if (want.length == 1 && want[0] == -2) {
            for (int k = -1; k <= 5; k++) Due.due("strokes k " + k, x.strokes(0, 0, k), -2);
            return;
        }
        Due.due("how many strokes", x.strokes(0, 0, -1), want.length);
        for (int k = 0; k < want.length; k++) Due.due("stroke " + k, x.strokes(0, 0, k), want[k]);
        Due.due("there are not as many", x.strokes(0, 0, want.length), -2);
        Due.due("there are never as many", x.strokes(0, 0, Integer.MAX_VALUE), -2);
    }

    private static void strokesFewest() {
        ColdShod x = oneAMile();
        x.road(1, 9);
        Due.bytes(x, 0, 0);
        strokesAre(x);
        x.mend(0, 4, 91);
        strokesAre(x, 0, 3);
        x.mend(0, 5, 1);
        strokesAre(x, 3);
        x.mend(0, 5, 0);
        x.mend(0, 6, 1);
        strokesAre(x, 0, 3);
        x.mend(0, 7, 1);
        strokesAre(x, -2);
        x.mend(0, 6, 0);
        x.mend(0, 10, 3);
        x.mend(0, 4, 99);
        // GRIP 3 wants WORN 76 or less: three NAILS
        strokesAre(x, 0, 3, 3, 3);
        x.mend(0, 10, 4);
        strokesAre(x, -2);
        x.mend(0, 5, 4);
        strokesAre(x, 3, 3, 3, 3);
        x.mend(0, 10, 5);
        strokesAre(x, -2);
        Due.due("in thought alone", x.of(0, 4), 99);
        x.row(0, 0, 0);
        strokesAre(x);
    }

    private static void strokesByShape() {
        ColdShod x = new ColdShod();
        x.head(2);
        x.idea(0, 0);
        x.mend(0, 8, 0);
        x.road(1, 1);
        Due.lawOf(x, "f=0?0;9");
        x.mend(0, 4, 95);
        x.mend(0, 9, 2);
        Due.bytes(x, 0, 0);
        strokesAre(x, 0, 3);
        x.mend(0, 5, 4);
        strokesAre(x, 3);
        x.mend(0, 9, 9);
        strokesAre(x, 1, 1);
        x.mend(0, 3, 4);
        strokesAre(x, 2, 2);
        x.mend(0, 5, 1);
        strokesAre(x, 0, 2, 2);
        x.mend(0, 5, 0);
        strokesAre(x, 0, 0, 2, 2);
    }

    private static void wayIs(ColdShod x, int ft, int worn, int... roads) {
        if (worn == -2) {
            for (int k = -2; k < 3; k++) Due.due("way " + ft + " k " + k, x.way(0, ft, k), -2);
            return;
        }
        Due.due("WORN by way " + ft, x.way(0, ft, -1), worn);
        Due.due("length of way " + ft, x.way(0, ft, -2), roads.length);
        for (int k = 0; k < roads.length; k++) Due.due("road " + k + " of way " + ft, x.way(0, ft, k), roads[k]);
        Due.due("no more roads", x.way(0, ft, roads.length), -2);
        Due.due("never so many", x.way(0, ft, Integer.MAX_VALUE), -2);
    }

    private static void ways() {
        ColdShod x = oneAMile();
        wayIs(x, 1, -2);
        x.road(1, 9);
        wayIs(x, 1, 9, 0);
        wayIs(x, 10, 9, 0);
        wayIs(x, 2, -2);
        x.road(20, 3);
        x.road(12, 4);
        wayIs(x, 1, 7, 1, 2);
        wayIs(x, 10, 7, 2, 1);
        x.mend(0, 4, 96);
        // lame at the end of the last ROAD is gone to its end; lame between is not
        wayIs(x, 2, 99, 1);
        wayIs(x, 1, -2);
        x.mend(0, 4, 99);
        wayIs(x, 2, -2);
        x.mend(0, 4, 0);
        for (int place = 2; place < 7; place++) x.road(10 * place + place + 1, 1);
        wayIs(x, 17, 9, 2, 3, 4, 5, 6, 7);
        wayIs(x, 71, 9, 7, 6, 5, 4, 3, 2);
        x.mend(1, 9, 9);
        x.mend(0, 9, 1);
        x.mend(2, 9, 1);
        wayIs(x, 7, 7, 0, 2, 3, 4, 5, 6, 7);
        Due.due("in thought alone", x.of(0, 4), 0);
    }

    private static void waysOfLikeWear() {
        ColdShod x = oneAMile();
        x.road(12, 2);
        x.road(23, 2);
        x.road(13, 4);
        x.road(21, 2);
        x.road(31, 4);
        wayIs(x, 13, 4, 2);
        wayIs(x, 31, 4, 2);
        x.mend(2, 9, 5);
        x.mend(4, 9, 5);
        wayIs(x, 13, 4, 0, 1);
        wayIs(x, 31, 4, 1, 0);
        x.mend(0, 9, 3);
        wayIs(x, 13, 4, 3, 1);
        // all at 99 alike: the fewest, then the first
        Due.lawOf(x, "9");
        x.mend(0, 4, 72);
        x.mend(1, 9, 1);
        x.mend(3, 9, 2);
        x.mend(2, 9, 3);
        wayIs(x, 13, 99, 2);
    }

    private static void waysBySteepness() {
        ColdShod x = oneAMile();
        x.road(1, 9);
        x.road(12, 1);
        x.road(2, 9);
        x.mend(2, 11, 2);
        Due.lawOf(x, "1+k");
        x.mend(1, 10, 9);
        x.mend(0, 4, 1);
        wayIs(x, 2, 11, 0, 1);
        x.mend(0, 4, 2);
        // behind ROAD 0 it is WORN 11: GRIP 8 does not climb ROAD 1
        wayIs(x, 2, 29, 2);
        x.mend(1, 10, 0);
        wayIs(x, 2, 12, 0, 1);
    }

    private static void reaches() {
        ColdShod x = oneAMile();
        for (int place = 0; place < 8; place++) Due.due("reach without roads", x.reach(0, place), 1 << place);
        // laid against the order in which they are needed
        for (int place = 6; place >= 0; place--) x.road(10 * (place + 1) + place, 9);
        Due.due("reach all", x.reach(0, 0), 255);
        Due.due("reach all the other way", x.reach(0, 7), 255);
        x.mend(3, 10, 9);
        x.mend(0, 4, 10);
        Due.due("it climbs", x.reach(0, 0), 255);
        x.mend(0, 4, 11);
        Due.due("it does not climb", x.reach(0, 0), 15);
        Due.due("it does not climb from there", x.reach(0, 5), 240);
        x.mend(3, 10, 0);
        x.mend(0, 4, 99);
        Due.due("a lame one climbs what is not steep", x.reach(0, 0), 255);
    }
}
