import java.util.Arrays;

/**
 * A forge where ideas are heated, drawn out, punched and nailed on again. The words in capitals in
 * the comments are those of the document; what is refused is answered with a number, never thrown.
 */
public final class ColdShod {
    public static final int BAD = -1, NOT = -2, FULL = -3, STATE = -5, VOID = -2000000000;

    private static final int MISSING = -11, OTHER_KIND = -12, NO_PLACE = -13, SIZE_BELOW_0 = -14;

    private static final int MOST_HEADS = 6, MOST_IDEAS = 8, MOST_ROADS = 12, PLACES = 8;
    private static final int MOST_FORM = 5, MOST_METAL = 3, MOST_WORN = 99, MOST_HEAT = 9, MOST_HEATED = 9;
    private static final int MOST_MILES = 9, FIRST_WILL = 6, NO_HEAD = -1;
    private static final int MOST_STAGES = 20, MOST_TURNS = 5, MOST_LIVES = 30, MOST_DRAWS = 40;
    private static final int SHELVES = 6, MOST_ELEMENTS = 60;

    /** What mend() and of() ask for: 0, 1 of a HEAD, 2 to 8 and 14 of an IDEA, 9 to 13 of a ROAD. */
    private static final int FORM = 0, WILL = 1, METAL = 2, SHAPE = 3, WORN = 4, HEAT = 5, CAST = 6,
        HEATED = 7, HEAD = 8, MILES = 9, STEEP = 10, KIND = 11, FROM = 12, TO = 13, GRIP = 14;
    private static final int[] LEAST = {0, 0, 0, 0, 0, 0, 0, 0, -1, 1, 0, 0};
    private static final int[] MOST = {5, 12, 3, 5, 99, 9, 1, 9, 5, 9, 9, 2};

    private static final int HEATING = 0, DRAW_MORE = 1, DRAW_LESS = 2, NAILING = 3, NO_STROKE = 4;
    /** The smith's deeds, the one that is taken first among like ones ahead. */
    private static final int[] SMITH_DEEDS = {NO_STROKE, HEATING, NAILING};

    /** What LED counts. */
    private static final int STROKES_DONE = 0, STROKES_VAIN = 1, ROADS_ENDED = 2, MILES_GONE = 3, WENT_LAME = 4,
        LED_NUMBERS = 5;
    private static final int NO_IMAGE = -1;

    private final Country land = new Country();
    private final LawText tape = new LawText();
    private final Changes changes = new Changes();
    private final Acts acts = new Acts();
    private final Journey travelled = new Journey();
    private final StrokePlan strokePlan = new StrokePlan();
    private final WayPlan wayPlan = new WayPlan();
    private final Shelf[] shelves = new Shelf[SHELVES];
    /** What an IDEA would be behind so many deeds; the first serves where one thought is enough. */
    private final Idea[] thoughts = new Idea[MOST_TURNS + 1];
    private final int[] ledNumbers = new int[LED_NUMBERS];
    private final Idea[] imageIdeas = new Idea[MOST_IDEAS];
    private final int[] imageLed = new int[LED_NUMBERS];
    private int imageCount = NO_IMAGE;
    private int firstDeed = NO_STROKE;

    public ColdShod() {
        for (int i = 0; i < shelves.length; i++) shelves[i] = new Shelf();
        for (int i = 0; i < thoughts.length; i++) thoughts[i] = new Idea();
        for (int i = 0; i < imageIdeas.length; i++) imageIdeas[i] = new Idea();
    }

    // ---- heads, ideas, roads

    public int head(int form) {
        if (form < 0 || form > MOST_FORM) return BAD;
        if (land.headCount >= MOST_HEADS) return FULL;
        land.forms[land.headCount] = form;
        land.wills[land.headCount] = FIRST_WILL;
        return land.headCount++;
    }

    public int idea(int metal, int shape) {
        if (metal < 0 || metal > MOST_METAL || shape < 0 || shape > MOST_FORM) return BAD;
        if (land.ideaCount >= MOST_IDEAS) return FULL;
        Idea idea = land.ideas[land.ideaCount];
        idea.metal = metal;
        idea.shape = shape;
        return land.ideaCount++;
    }

    public int road(int ft, int miles) {
        if (!areUnlikePlaces(ft) || miles < 1 || miles > MOST_MILES) return BAD;
        return land.layRoad(ft / 10, ft % 10, miles);
    }

    public int roads(int shelf, int i, int n) {
        if (!isShelf(shelf) || n < 1 || n > MOST_ROADS) return BAD;
        Shelf row = shelves[shelf];
        if (row.holds == Shelf.NOTHING) return 0;
        if (!row.isBytes()) return OTHER_KIND;
        // a place ahead of the row is none of its own: there it ends, as behind its last element
        if (i < 0) return 0;
        int came = 0;
        for (int at = i; came < n && at < row.length - 2; at += 3) {
            if (!layRoadFrom(row, at)) return came;
            came++;
        }
        return came;
    }

    private boolean layRoadFrom(Shelf row, int at) {
        long from = row.cells[at], to = row.cells[at + 1], miles = row.cells[at + 2];
        if (!isPlace(from) || !isPlace(to) || from == to || miles < 1 || miles > MOST_MILES) return false;
        return land.layRoad((int) from, (int) to, (int) miles) >= 0;
    }

    public int mend(int number, int what, int v) {
        if (!land.isThere(number, what) || !land.canBe(what, v)) return VOID;
        int was = land.numberOf(number, what);
        if (was != v) {
            land.setNumber(number, what, v);
            changes.note(number, what, was, v);
        }
        return was;
    }

    public int of(int number, int what) {
        return land.numberOf(number, what);
    }

    public int feed(int letter) {
        if (letter < 0 || letter > 255) return BAD;
        return tape.take(letter) ? tape.fed : FULL;
    }

    public int law() {
        LawCode draft = land.spareLaw;
        int fault = tape.readInto(draft);
        tape.fed = 0;
        if (fault != LawText.NO_FAULT) return -100 - fault;
        land.spareLaw = land.law;
        land.law = draft;
        return 1;
    }

    public int wears(int idea, int road) {
        if (!land.hasIdea(idea) || !land.hasRoad(road)) return BAD;
        return land.wearOf(land.ideas[idea], land.roads[road]);
    }

    // ---- journeys

    public int journey(int shelf, int idea, int what) {
        if (!isShelf(shelf) || !land.hasIdea(idea) || what < 0 || what > 4) return BAD;
        int refused = refusalOfBytes(shelves[shelf]);
        if (refused != 0) return refused;
        travelled.read(shelves[shelf], land.roadCount);
        Idea thought = thoughtOf(idea);
        boolean all = travelled.allGone(thought, land);
        switch (what) {
            case 0: return travelled.miles;
            case 1: return travelled.ended;
            case 2: return thought.worn;
            case 3: return thought.heat;
            default: return all ? NOT : travelled.ended;
        }
    }

    public int strokes(int shelf, int idea, int k) {
        if (!isShelf(shelf) || !land.hasIdea(idea) || k < -1) return BAD;
        int refused = refusalOfBytes(shelves[shelf]);
        if (refused != 0) return refused;
        travelled.read(shelves[shelf], land.roadCount);
        int fewest = strokePlan.fewestFor(travelled, land.ideas[idea], land);
        if (k == -1 || fewest == NOT) return fewest;
        return k < fewest ? strokePlan.plan[k] : NOT;
    }

    public int way(int idea, int ft, int k) {
        if (!land.hasIdea(idea) || !areUnlikePlaces(ft) || k < -2) return BAD;
        wayPlan.seek(land, land.ideas[idea], ft / 10, ft % 10);
        if (wayPlan.bestLength == NOT || k >= wayPlan.bestLength) return NOT;
        if (k == -1) return wayPlan.bestWorn;
        return k == -2 ? wayPlan.bestLength : wayPlan.best[k];
    }

    public int reach(int idea, int place) {
        if (!land.hasIdea(idea) || !isPlace(place)) return BAD;
        Idea climber = land.ideas[idea];
        int reached = 1 << place;
        // every round but the last reaches a PLACE more, so as many rounds as PLACES are enough
        for (int round = 0; round < PLACES; round++) {
            for (int r = 0; r < land.roadCount; r++) {
                Road road = land.roads[r];
                int ends = 1 << road.from | 1 << road.to;
                if (climber.canClimb(road) && (reached & ends) != 0) reached |= ends;
            }
        }
        return reached;
    }

    // ---- heads for ideas, yokes

    public int asks(int head) {
        if (!land.hasHead(head)) return BAD;
        land.letAllAsk();
        return land.had[head];
    }

    public int settled() {
        return land.isSettled() ? 1 : 0;
    }

    public int yokes(int what) {
        if (what < 0 || what > 2) return BAD;
        if (what == 0) return land.fewestYokes();
        int clash = land.greatestClash();
        return what == 1 ? Integer.bitCount(clash) : clash;
    }

    // ---- the edge

    public int judge(int ss, int idea) {
        if (!areShelves(ss) || !land.hasIdea(idea)) return BAD;
        int refused = refusalOfEdge(ss);
        if (refused != 0) return refused;
        travelled.read(shelves[ss / 10], land.roadCount);
        return travelled.firstWrong(thoughtOf(idea), shelves[ss % 10], land);
    }

    public int edge(int ss, int idea, int what) {
        if (!areShelves(ss) || !land.hasIdea(idea) || what < 0 || what > 1) return BAD;
        int refused = refusalOfEdge(ss);
        if (refused != 0) return refused;
        travelled.read(shelves[ss / 10], land.roadCount);
        int most = what == 0 ? MOST_METAL : MOST_FORM;
        int bits = 0;
        for (int v = 0; v <= most; v++) {
            Idea thought = thoughtOf(idea);
            if (what == 0) thought.metal = v;
            else thought.shape = v;
            if (travelled.firstWrong(thought, shelves[ss % 10], land) == NOT) bits |= 1 << v;
        }
        return bits;
    }

    public int byTurns(int idea, int n, int what) {
        if (!land.hasIdea(idea) || n < 1 || n > MOST_TURNS || what < 0 || what > 1) return BAD;
        thoughtOf(idea);
        firstDeed = NO_STROKE;
        int worn = wornAtBest(0, n);
        return what == 0 ? worn : firstDeed;
    }

    /** WORN behind all n deeds, if both do their best from the thought behind the first ones on. */
    private int wornAtBest(int done, int n) {
        if (done >= n || done + 1 >= thoughts.length) return thoughts[done].worn;
        return done % 2 == 0 ? leastBySmith(done, n) : mostByKicker(done, n);
    }

    private int leastBySmith(int done, int n) {
        int least = MOST_WORN + 1;
        for (int i = 0; i < SMITH_DEEDS.length; i++) {
            Idea next = thoughts[done + 1];
            next.become(thoughts[done]);
            next.strike(SMITH_DEEDS[i]);
            int worn = wornAtBest(done + 1, n);
            if (worn < least) {
                least = worn;
                if (done == 0) firstDeed = SMITH_DEEDS[i];
            }
        }
        return least;
    }

    private int mostByKicker(int done, int n) {
        int most = 0;
        for (int deed = 0; deed < 3; deed++) {
            Idea next = thoughts[done + 1];
            next.become(thoughts[done]);
            if (deed == 0) next.wearBy(7);
            if (deed == 1) next.cool(1);
            most = Math.max(most, wornAtBest(done + 1, n));
        }
        return most;
    }

    public int drawn(int seed, int nm, int idea, int what) {
        int lives = nm / 100, draws = nm % 100;
        if (lives < 1 || lives > MOST_LIVES || draws < 1 || draws > MOST_DRAWS) return BAD;
        if (!land.hasIdea(idea) || what < 0 || what > 1) return BAD;
        int z = seed, miles = 0, lame = 0, will = land.willBehind(land.ideas[idea]);
        for (int life = 0; life < lives; life++) {
            Idea thought = thoughtOf(idea);
            for (int draw = 0; draw < draws && land.roadCount > 0; draw++) {
                z = z * 1103515245 + 12345;
                if ((z >>> 16) % 12 < will) thought.strike(NAILING);
                miles += land.travel(thought, land.roads[(z >>> 8) % land.roadCount]);
            }
            if (thought.isLame()) lame++;
        }
        return what == 0 ? miles : lame;
    }

    // ---- in deed

    public int stroke(int idea, int how) {
        if (!land.hasIdea(idea) || how < HEATING || how > NAILING) return BAD;
        boolean done = land.ideas[idea].strike(how);
        ledNumbers[done ? STROKES_DONE : STROKES_VAIN]++;
        return done ? 1 : 0;
    }

    public int goes(int idea, int road) {
        if (!land.hasIdea(idea) || !land.hasRoad(road)) return BAD;
        Idea who = land.ideas[idea];
        Road by = land.roads[road];
        if (!who.setsOutOn(by)) return STATE;
        int miles = land.travel(who, by);
        ledNumbers[MILES_GONE] += miles;
        if (miles == by.miles) ledNumbers[ROADS_ENDED]++;
        if (who.isLame()) ledNumbers[WENT_LAME]++;
        return miles;
    }

    public int deal() {
        land.letAllAsk();
        for (int d = 0; d < land.ideaCount; d++) land.ideas[d].head = NO_HEAD;
        int dealt = 0;
        for (int h = 0; h < land.headCount; h++) {
            if (!land.hasIdea(land.had[h])) continue;
            land.ideas[land.had[h]].head = h;
            dealt++;
        }
        return dealt;
    }

    public int led(int what) {
        return what < 0 || what >= LED_NUMBERS ? BAD : ledNumbers[what];
    }

    public int image() {
        for (int d = 0; d < land.ideaCount; d++) imageIdeas[d].become(land.ideas[d]);
        System.arraycopy(ledNumbers, 0, imageLed, 0, LED_NUMBERS);
        imageCount = land.ideaCount;
        return ledNumbers[MILES_GONE];
    }

    public int back() {
        if (imageCount == NO_IMAGE) return STATE;
        for (int d = 0; d < imageCount; d++) land.ideas[d].becomeByDeeds(imageIdeas[d]);
        System.arraycopy(imageLed, 0, ledNumbers, 0, LED_NUMBERS);
        return ledNumbers[MILES_GONE];
    }

    public int undo() {
        if (changes.undoable == 0) return STATE;
        changes.takeBack(land);
        return changes.undoable;
    }

    public int redo() {
        if (changes.redoable == 0) return STATE;
        changes.doAgain(land);
        return changes.redoable;
    }

    // ---- acts, shelves

    public int body(int kind) {
        if (kind < 0 || kind >= Acts.KINDS) return BAD;
        return acts.add(kind);
    }

    public int act(int body, int act, int x) {
        return acts.perform(body, act, x);
    }

    public int trace(int i) {
        return acts.bodyThatRan(i);
    }

    public int keep(int shelf, int body) {
        if (!isShelf(shelf) || body != -1 && !acts.has(body)) return BAD;
        if (body == -1) shelves[shelf].holds = Shelf.NOTHING;
        else shelves[shelf].holdSmith(body);
        return 1;
    }

    public int row(int shelf, int sort, int n) {
        if (!isShelf(shelf) || sort < Shelf.BYTES || sort > Shelf.BOOLEANS || n > MOST_ELEMENTS) return BAD;
        if (n < 0) return SIZE_BELOW_0;
        shelves[shelf].holdRow(sort, n);
        return 1;
    }

    public int put(int shelf, int i, long v) {
        int refused = refusalOfElement(shelf, i);
        if (refused != 0) return refused;
        shelves[shelf].cells[i] = shelves[shelf].cut(v);
        return 1;
    }

    public long element(int shelf, int i) {
        return refusalOfElement(shelf, i) != 0 ? Long.MIN_VALUE : shelves[shelf].cells[i];
    }

    public int shift(int shelf, int i, int other, int j, int n) {
        if (!isShelf(shelf) || !isShelf(other)) return BAD;
        Shelf source = shelves[shelf], target = shelves[other];
        if (source.holds == Shelf.NOTHING || target.holds == Shelf.NOTHING) return MISSING;
        if (source.holds != Shelf.ROW || target.holds != Shelf.ROW || source.sort != target.sort) return OTHER_KIND;
        if (n < 0 || !source.hasRange(i, n) || !target.hasRange(j, n)) return NO_PLACE;
        System.arraycopy(source.cells, i, target.cells, j, n);
        return n;
    }

    public int taken(int shelf, int k) {
        if (!isShelf(shelf) || k < 0 || k >= Acts.KINDS) return BAD;
        Shelf from = shelves[shelf];
        if (from.holds == Shelf.NOTHING) return MISSING;
        if (from.holds != Shelf.SMITH || !acts.has(from.smith)) return OTHER_KIND;
        int kind = acts.kinds[from.smith];
        return Acts.isUnder(kind, k) ? kind : OTHER_KIND;
    }

    public int count(int what) {
        switch (what) {
            case 0: return land.headCount;
            case 1: return land.ideaCount;
            case 2: return land.roadCount;
            case 3: return tape.fed;
            case 4: return changes.undoable;
            case 5: return acts.smiths;
            case 6: return acts.ran;
            default: return BAD;
        }
    }

    // ---- what the calls share

    private static boolean isShelf(int shelf) {
        return shelf >= 0 && shelf < SHELVES;
    }

    private static boolean areShelves(int ss) {
        return ss >= 0 && isShelf(ss / 10) && isShelf(ss % 10);
    }

    private static boolean isPlace(long place) {
        return place >= 0 && place < PLACES;
    }

    private static boolean areUnlikePlaces(int ft) {
        return ft >= 0 && isPlace(ft / 10) && isPlace(ft % 10) && ft / 10 != ft % 10;
    }

    private Idea thoughtOf(int idea) {
        thoughts[0].become(land.ideas[idea]);
        return thoughts[0];
    }

    /** 0, or why a SHELF does not give a ROW of bytes. */
    private static int refusalOfBytes(Shelf shelf) {
        if (shelf.holds == Shelf.NOTHING) return MISSING;
        return shelf.isBytes() ? 0 : OTHER_KIND;
    }

    private int refusalOfEdge(int ss) {
        int refused = refusalOfBytes(shelves[ss / 10]);
        return refused != 0 ? refused : refusalOfBytes(shelves[ss % 10]);
    }

    private int refusalOfElement(int shelf, int i) {
        if (!isShelf(shelf)) return BAD;
        if (shelves[shelf].holds == Shelf.NOTHING) return MISSING;
        if (shelves[shelf].holds != Shelf.ROW) return OTHER_KIND;
        return i < 0 || i >= shelves[shelf].length ? NO_PLACE : 0;
    }

    /** An IDEA, or what one would be in thought. */
    private static final class Idea {
        int metal;
        int shape;
        int worn;
        int heat;
        int cast;
        int heated;
        int head = NO_HEAD;

        void become(Idea other) {
            metal = other.metal;
            cast = other.cast;
            becomeByDeeds(other);
        }

        /** Takes on what deeds can change, which is what AN IMAGE keeps. */
        void becomeByDeeds(Idea other) {
            shape = other.shape;
            worn = other.worn;
            heat = other.heat;
            heated = other.heated;
            head = other.head;
        }

        int grip() {
            return 9 - worn / 11;
        }

        boolean isLame() {
            return worn >= MOST_WORN;
        }

        boolean canClimb(Road road) {
            return road.steep <= grip();
        }

        boolean setsOutOn(Road road) {
            return !isLame() && canClimb(road);
        }

        void wearBy(int more) {
            worn = Math.min(MOST_WORN, worn + more);
        }

        void cool(int by) {
            heat = Math.max(0, heat - by);
        }

        /** A STROKE: whether anything changed by it. */
        boolean strike(int how) {
            switch (how) {
                case HEATING: return heatUp();
                case DRAW_MORE: return drawTo(shape + 1);
                case DRAW_LESS: return drawTo(shape - 1);
                case NAILING: return nail();
                default: return false;
            }
        }

        private boolean heatUp() {
            boolean hotterNoMore = cast == 1 && heated >= 1;
            if (hotterNoMore || heat == MOST_HEAT && heated == MOST_HEATED) return false;
            heat = Math.min(MOST_HEAT, heat + 3);
            heated = Math.min(MOST_HEATED, heated + 1);
            return true;
        }

        private boolean drawTo(int newShape) {
            if (heat < 2 || newShape < 0 || newShape > MOST_FORM) return false;
            shape = newShape;
            cool(2);
            return true;
        }

        private boolean nail() {
            if (heat < 1) return false;
            worn = Math.max(0, worn - 10);
            cool(1);
            return true;
        }
    }

    private static final class Road {
        int from;
        int to;
        int miles;
        int steep;
        int kind;

        /** The PLACE to which it leads from one, -1 if it does not touch that. */
        int farEnd(int place) {
            if (place == from) return to;
            return place == to ? from : -1;
        }
    }

    /** The HEADS, IDEAS and ROADS that are there, and THE LAW by which ROADS wear IDEAS. */
    private static final class Country {
        final int[] forms = new int[MOST_HEADS];
        final int[] wills = new int[MOST_HEADS];
        final Idea[] ideas = new Idea[MOST_IDEAS];
        final Road[] roads = new Road[MOST_ROADS];
        /** Which IDEA each HEAD has by the latest asking or look. */
        final int[] had = new int[MOST_HEADS];
        final int[] names = new int[LawCode.NAMES];
        int headCount;
        int ideaCount;
        int roadCount;
        LawCode law = new LawCode();
        LawCode spareLaw = new LawCode();

        Country() {
            for (int i = 0; i < ideas.length; i++) ideas[i] = new Idea();
            for (int i = 0; i < roads.length; i++) roads[i] = new Road();
        }

        boolean hasHead(int number) {
            return number >= 0 && number < headCount;
        }

        boolean hasIdea(int number) {
            return number >= 0 && number < ideaCount;
        }

        boolean hasRoad(int number) {
            return number >= 0 && number < roadCount;
        }

        int layRoad(int from, int to, int miles) {
            if (roadCount >= MOST_ROADS) return FULL;
            Road road = roads[roadCount];
            road.from = from;
            road.to = to;
            road.miles = miles;
            return roadCount++;
        }

        // -- the numbers of mend() and of()

        boolean isThere(int number, int what) {
            if (what < FORM || what > GRIP) return false;
            if (what <= WILL) return hasHead(number);
            return what <= HEAD || what == GRIP ? hasIdea(number) : hasRoad(number);
        }

        /** FROM, TO and GRIP cannot be told, so v is never good for them. */
        boolean canBe(int what, int v) {
            if (what < FORM || what > KIND) return false;
            int most = what == HEAD ? headCount - 1 : MOST[what];
            return v >= LEAST[what] && v <= most;
        }

        /** VOID, if there is no such number. */
        int numberOf(int number, int what) {
            if (!isThere(number, what)) return VOID;
            switch (what) {
                case FORM: return forms[number];
                case WILL: return wills[number];
                case METAL: return ideas[number].metal;
                case SHAPE: return ideas[number].shape;
                case WORN: return ideas[number].worn;
                case HEAT: return ideas[number].heat;
                case CAST: return ideas[number].cast;
                case HEATED: return ideas[number].heated;
                case HEAD: return ideas[number].head;
                case MILES: return roads[number].miles;
                case STEEP: return roads[number].steep;
                case KIND: return roads[number].kind;
                case FROM: return roads[number].from;
                case TO: return roads[number].to;
                case GRIP: return ideas[number].grip();
                default: return VOID;
            }
        }

        void setNumber(int number, int what, int v) {
            if (!isThere(number, what)) return;
            switch (what) {
                case FORM: forms[number] = v; break;
                case WILL: wills[number] = v; break;
                case METAL: ideas[number].metal = v; break;
                case SHAPE: ideas[number].shape = v; break;
                case WORN: ideas[number].worn = v; break;
                case HEAT: ideas[number].heat = v; break;
                case CAST: ideas[number].cast = v; break;
                case HEATED: ideas[number].heated = v; break;
                case HEAD: ideas[number].head = v; break;
                case MILES: roads[number].miles = v; break;
                case STEEP: roads[number].steep = v; break;
                case KIND: roads[number].kind = v; break;
                default: break;
            }
        }

        // -- going

        int willBehind(Idea idea) {
            return hasHead(idea.head) ? wills[idea.head] : FIRST_WILL;
        }

        int wearOf(Idea idea, Road road) {
            names[LawCode.M] = idea.metal;
            names[LawCode.W] = idea.worn;
            names[LawCode.H] = idea.heat;
            names[LawCode.F] = hasHead(idea.head) ? Math.abs(idea.shape - forms[idea.head]) : 9;
            names[LawCode.S] = road.steep;
            names[LawCode.K] = road.kind;
            return Math.max(0, Math.min(9, law.worth(names)));
        }

        /** An IDEA GOES a ROAD, as far as it can: MILES gone; all of them, if it comes to the end. */
        int travel(Idea idea, Road road) {
            if (!idea.setsOutOn(road)) return 0;
            int wear = wearOf(idea, road);
            for (int mile = 1; mile <= road.miles; mile++) {
                idea.wearBy(wear);
                if (idea.isLame() && mile < road.miles) return mile;
                // what alters within a ROAD is WORN alone
                if (law.mindsWorn && wear > 0 && mile < road.miles) wear = wearOf(idea, road);
            }
            idea.cool(1);
            return road.miles;
        }

        // -- heads for ideas

        /**
         * All HEADS ask. The IDEAS all rank the HEADS alike, so it ends as if the HEADS chose by that
         * rank one after the other: who stands higher is never turned down for who stands lower.
         */
        void letAllAsk() {
            Arrays.fill(had, NOT);
            int served = 0, gone = 0;
            for (int turn = 0; turn < headCount; turn++) {
                int head = firstOfOthers(served);
                if (!hasHead(head)) return;
                served |= 1 << head;
                had[head] = nearestOfOthers(head, gone);
                if (had[head] != NOT) gone |= 1 << had[head];
            }
        }

        private int firstOfOthers(int served) {
            int first = NO_HEAD;
            for (int h = 0; h < headCount; h++) {
                if ((served >> h & 1) == 0 && isRatherHead(h, first)) first = h;
            }
            return first;
        }

        private int nearestOfOthers(int head, int gone) {
            int nearest = NOT;
            for (int d = 0; d < ideaCount; d++) {
                if ((gone >> d & 1) == 0 && isRatherIdea(head, d, nearest)) nearest = d;
            }
            return nearest;
        }

        /** Whether an IDEA would rather have the HEAD one than the HEAD other (that may be none). */
        private boolean isRatherHead(int one, int other) {
            if (!hasHead(other)) return true;
            return wills[one] != wills[other] ? wills[one] > wills[other] : one < other;
        }

        /** Whether a HEAD would rather have the IDEA one than the IDEA other (that may be none). */
        private boolean isRatherIdea(int head, int one, int other) {
            if (!hasIdea(other)) return true;
            int farOne = Math.abs(ideas[one].shape - forms[head]);
            int farOther = Math.abs(ideas[other].shape - forms[head]);
            if (farOne != farOther) return farOne < farOther;
            if (ideas[one].worn != ideas[other].worn) return ideas[one].worn < ideas[other].worn;
            return one < other;
        }

        boolean isSettled() {
            Arrays.fill(had, NOT);
            for (int d = 0; d < ideaCount; d++) {
                int head = ideas[d].head;
                if (!hasHead(head)) continue;
                if (had[head] != NOT) return false;
                had[head] = d;
            }
            for (int h = 0; h < headCount; h++) {
                for (int d = 0; d < ideaCount; d++) {
                    boolean apart = ideas[d].head != h;
                    if (apart && isRatherIdea(h, d, had[h]) && isRatherHead(h, ideas[d].head)) return false;
                }
            }
            return true;
        }

        // -- yokes

        /** A YOKE holds two SHAPES side by side at most, so the least SHAPE left over begins the next. */
        int fewestYokes() {
            int shapes = 0;
            for (int d = 0; d < ideaCount; d++) shapes |= 1 << ideas[d].shape;
            int yokes = 0;
            for (int shape = 0; shape <= MOST_FORM; shape++) {
                if ((shapes >> shape & 1) == 0) continue;
                yokes++;
                shapes &= ~(3 << shape);
            }
            return yokes;
        }

        int greatestClash() {
            int greatest = 0;
            for (int bits = 1; bits < 1 << ideaCount; bits++) {
                if (Integer.bitCount(bits) > Integer.bitCount(greatest) && allClash(bits)) greatest = bits;
            }
            return greatest;
        }

        private boolean allClash(int bits) {
            int near = 0;
            for (int d = 0; d < ideaCount; d++) {
                if ((bits >> d & 1) == 0) continue;
                int shape = ideas[d].shape;
                if ((near >> shape & 1) != 0) return false;
                // the SHAPES with which this one goes together; a SHAPE -1 falls off
                near |= 7 << shape >> 1;
            }
            return true;
        }
    }

    /** A JOURNEY as it was read from a SHELF, and how far it was gone last. */
    private static final class Journey {
        final int[] stages = new int[MOST_STAGES];
        int length;
        int miles;
        int ended;

        void read(Shelf shelf, int roadCount) {
            length = 0;
            for (int i = 0; i < stages.length && i < shelf.length; i++) {
                long stage = shelf.cells[i];
                if (stage < 0 || stage >= roadCount) return;
                stages[i] = (int) stage;
                length = i + 1;
            }
        }

        boolean allGone(Idea idea, Country land) {
            miles = 0;
            ended = 0;
            for (int i = 0; i < length; i++) {
                if (!goesStage(i, idea, land)) return false;
            }
            return true;
        }

        private boolean goesStage(int stage, Idea idea, Country land) {
            Road road = land.roads[stages[stage]];
            int gone = land.travel(idea, road);
            miles += gone;
            if (gone < road.miles) return false;
            ended++;
            return true;
        }

        /** The first element of a ROW that does not tell WORN behind so many ROADS; NOT. */
        int firstWrong(Idea idea, Shelf told, Country land) {
            for (int i = 0; i < told.length; i++) {
                boolean cameSoFar = i == 0 || i <= length && goesStage(i - 1, idea, land);
                if (!cameSoFar || told.cells[i] != idea.worn) return i;
            }
            return NOT;
        }
    }

    /** The fewest STROKES ahead of a JOURNEY, sought by how many there are. */
    private static final class StrokePlan {
        static final int MOST_STROKES = 4, KINDS_OF_STROKES = 4, MOST_STATES = 1 + 4 + 16 + 64 + 256;

        final int[] plan = new int[MOST_STROKES];
        private final int[] states = new int[MOST_STATES];
        private final int[] earlier = new int[MOST_STATES];
        private final int[] last = new int[MOST_STATES];
        private final int[] lengths = new int[MOST_STATES];
        private final Idea thought = new Idea();
        private int found;

        /** How many; they stand in plan then. NOT. */
        int fewestFor(Journey journey, Idea idea, Country land) {
            states[0] = stateOf(idea);
            lengths[0] = 0;
            found = 1;
            for (int i = 0; i < found && i < MOST_STATES; i++) {
                recall(idea, states[i]);
                if (journey.allGone(thought, land)) return tellPlan(i);
                if (lengths[i] < MOST_STROKES) addNext(idea, i);
            }
            return NOT;
        }

        /** A state that was found before came by fewer STROKES, or by lesser ones: it is not kept again. */
        private void addNext(Idea idea, int from) {
            for (int how = 0; how < KINDS_OF_STROKES; how++) {
                recall(idea, states[from]);
                if (!thought.strike(how)) continue;
                int state = stateOf(thought);
                if (isFound(state) || found >= MOST_STATES) continue;
                states[found] = state;
                earlier[found] = from;
                last[found] = how;
                lengths[found] = lengths[from] + 1;
                found++;
            }
        }

        private boolean isFound(int state) {
            for (int i = 0; i < found; i++) {
                if (states[i] == state) return true;
            }
            return false;
        }

        private int tellPlan(int end) {
            int length = lengths[end], at = end;
            for (int k = length - 1; k >= 0; k--) {
                plan[k] = last[at];
                at = earlier[at];
            }
            return length;
        }

        /** What STROKES can change, as one number. */
        private static int stateOf(Idea idea) {
            return ((idea.shape * 100 + idea.worn) * 10 + idea.heat) * 10 + idea.heated;
        }

        private void recall(Idea idea, int state) {
            thought.become(idea);
            thought.heated = state % 10;
            thought.heat = state / 10 % 10;
            thought.worn = state / 100 % 100;
            thought.shape = state / 10000;
        }
    }

    /** The way between two PLACES by which an IDEA is WORN least. */
    private static final class WayPlan {
        final int[] best = new int[PLACES];
        int bestLength;
        int bestWorn;
        private final int[] trail = new int[PLACES];
        private final Idea[] behind = new Idea[PLACES];

        WayPlan() {
            for (int i = 0; i < behind.length; i++) behind[i] = new Idea();
        }

        /** Sets bestLength (NOT: there is no way), bestWorn and best. */
        void seek(Country land, Idea idea, int from, int to) {
            bestLength = NOT;
            behind[0].become(idea);
            follow(land, from, to, 1 << from, 0);
        }

        /** Takes the ROADS by number, so that of like ways the first by numbers is found first. */
        private void follow(Country land, int place, int to, int seen, int depth) {
            if (place == to) weigh(depth);
            if (place == to || depth + 1 >= behind.length) return;
            for (int r = 0; r < land.roadCount; r++) {
                Road road = land.roads[r];
                int next = road.farEnd(place);
                if (next < 0 || (seen >> next & 1) != 0) continue;
                behind[depth + 1].become(behind[depth]);
                if (land.travel(behind[depth + 1], road) < road.miles) continue;
                trail[depth] = r;
                follow(land, next, to, seen | 1 << next, depth + 1);
            }
        }

        private void weigh(int length) {
            int worn = behind[length].worn;
            boolean better = bestLength == NOT || worn < bestWorn || worn == bestWorn && length < bestLength;
            if (!better) return;
            bestWorn = worn;
            bestLength = length;
            System.arraycopy(trail, 0, best, 0, length);
        }
    }

    /** THE LAW made ready: its LINES one behind the other, signs behind what they join. */
    private static final class LawCode {
        static final int NAMES = 6, M = 0, W = 1, H = 2, F = 3, S = 4, K = 5;
        /** What no joining sign of the text is. */
        static final int NUMBER = '0', NAME = 'm', NEGATED = '~';
        /** A byte of the text gives two cells at most, and its end one more. */
        private static final int MOST_CELLS = 2 * LawText.MOST_LETTERS + 2;
        /** Seven nestings, in each of which one value may wait on each of five levels. */
        private static final int MOST_WAITING = 64;

        boolean mindsWorn;
        private final int[] cells = new int[MOST_CELLS];
        private int length;
        private final int[] values = new int[MOST_WAITING];

        void clear() {
            length = 0;
            mindsWorn = false;
        }

        void add(int cell) {
            if (length >= MOST_CELLS) return;
            cells[length] = cell;
            length++;
        }

        void addName(int name) {
            add(NAME);
            add(name);
            if (name == W) mindsWorn = true;
        }

        /** If the value ahead is 0, all is passed over up to where endSkip() is called with the answer. */
        int addSkip() {
            add('?');
            add(0);
            return length - 1;
        }

        void endSkip(int skip) {
            if (skip >= 0 && skip < MOST_CELLS) cells[skip] = length;
        }

        /** The law as it was read never lacks or overfills values; that is looked at all the same. */
        int worth(int[] names) {
            if (length == 0) return 1 + names[K] + names[F] / 3 - names[M] / 2;
            int waiting = 0, at = 0;
            for (int steps = 0; steps < MOST_CELLS && at < length; steps++) {
                int sign = cells[at];
                int operand = at + 1 < length ? cells[at + 1] : 0;
                at++;
                if (sign == NUMBER || sign == NAME) {
                    if (waiting >= MOST_WAITING || sign == NAME && !isName(operand)) return 0;
                    values[waiting] = sign == NUMBER ? operand : names[operand];
                    waiting++;
                    at++;
                    continue;
                }
                if (waiting < 1) return 0;
                int last = values[waiting - 1];
                switch (sign) {
                    case '!': values[waiting - 1] = last == 0 ? 1 : 0; break;
                    case NEGATED: values[waiting - 1] = -last; break;
                    case '?': waiting--; at = last == 0 ? Math.max(at, operand) : at + 1; break;
                    case ';': return last;
                    default:
                        if (waiting < 2) return 0;
                        waiting--;
                        values[waiting - 1] = joined(values[waiting - 1], sign, last);
                        break;
                }
            }
            return 0;
        }

        private static boolean isName(int name) {
            return name >= 0 && name < NAMES;
        }

        private static int joined(int a, int sign, int b) {
            switch (sign) {
                case '|': return a != 0 || b != 0 ? 1 : 0;
                case '&': return a != 0 && b != 0 ? 1 : 0;
                case '<': return a < b ? 1 : 0;
                case '=': return a == b ? 1 : 0;
                case '>': return a > b ? 1 : 0;
                case '+': return a + b;
                case '-': return a - b;
                case '*': return a * b;
                case '/': return b == 0 ? 0 : a / b;
                case '%': return b == 0 ? 0 : a % b;
                default: return 0;
            }
        }
    }

    /** THE TAPE, and how THE LAW is read from it: what cannot be read on stops at the byte that is its FAULT. */
    private static final class LawText {
        static final int MOST_LETTERS = 120, NO_FAULT = -1;
        private static final int MOST_OPEN = 6, MOST_DIGITS = 4;
        /** The levels of joining signs, from the loosest on; behind them comes an O. */
        private static final int ORS = 0, ANDS = 1, COMPARISONS = 2, SUMS = 3, PRODUCTS = 4, OPERANDS = 5;

        private final int[] letters = new int[MOST_LETTERS];
        int fed;
        private int at;

        boolean take(int letter) {
            if (fed >= MOST_LETTERS) return false;
            letters[fed] = letter;
            fed++;
            return true;
        }

        /** Its FAULT, or NO_FAULT. */
        int readInto(LawCode code) {
            code.clear();
            at = 0;
            for (int lines = 0; lines <= MOST_LETTERS; lines++) {
                if (!readLine(code)) return at;
                if (at >= fed) return NO_FAULT;
                if (!passes(';')) return at;
            }
            return at;
        }

        private boolean readLine(LawCode code) {
            if (!readLevel(code, ORS, 0)) return false;
            if (!passes('?')) {
                code.add(';');
                return true;
            }
            int skip = code.addSkip();
            if (!readLevel(code, ORS, 0)) return false;
            code.add(';');
            code.endSkip(skip);
            return true;
        }

        /** How deep it goes is held by the count of the open signs ( ! - . */
        private boolean readLevel(LawCode code, int level, int open) {
            if (level >= OPERANDS) return readOperand(code, open);
            if (!readLevel(code, level + 1, open)) return false;
            int mostSigns = level == COMPARISONS ? 1 : MOST_LETTERS;
            for (int signs = 0; signs < mostSigns; signs++) {
                int sign = letter();
                if (levelOf(sign) != level) return true;
                at++;
                if (!readLevel(code, level + 1, open)) return false;
                code.add(sign);
            }
            return true;
        }

        private boolean readOperand(LawCode code, int open) {
            int letter = letter();
            if (isDigit(letter)) return readNumber(code);
            int name = nameOf(letter);
            if (name >= 0) {
                code.addName(name);
                at++;
                return true;
            }
            if (letter != '(' && letter != '!' && letter != '-' || open >= MOST_OPEN) return false;
            at++;
            if (letter == '(') return readLevel(code, ORS, open + 1) && passes(')');
            if (!readOperand(code, open + 1)) return false;
            code.add(letter == '!' ? '!' : LawCode.NEGATED);
            return true;
        }

        private boolean readNumber(LawCode code) {
            int value = 0;
            for (int digits = 0; digits < MOST_DIGITS && isDigit(letter()); digits++) {
                value = value * 10 + letter() - '0';
                at++;
            }
            code.add(LawCode.NUMBER);
            code.add(value);
            return true;
        }

        /** The letter that comes next, -1 at the end. */
        private int letter() {
            return at < fed ? letters[at] : -1;
        }

        private boolean passes(int sign) {
            if (letter() != sign) return false;
            at++;
            return true;
        }

        private static boolean isDigit(int letter) {
            return letter >= '0' && letter <= '9';
        }

        private static int nameOf(int letter) {
            switch (letter) {
                case 'm': return LawCode.M;
                case 'w': return LawCode.W;
                case 'h': return LawCode.H;
                case 'f': return LawCode.F;
                case 's': return LawCode.S;
                case 'k': return LawCode.K;
                default: return -1;
            }
        }

        private static int levelOf(int sign) {
            switch (sign) {
                case '|': return ORS;
                case '&': return ANDS;
                case '<': case '=': case '>': return COMPARISONS;
                case '+': case '-': return SUMS;
                case '*': case '/': case '%': return PRODUCTS;
                default: return -1;
            }
        }
    }

    /** The CHANGES that are kept: those that may be UNDONE, and behind them those DONE AGAIN. */
    private static final class Changes {
        private static final int MOST_KEPT = 40;

        int undoable;
        int redoable;
        private final int[] numbers = new int[MOST_KEPT];
        private final int[] whats = new int[MOST_KEPT];
        private final int[] befores = new int[MOST_KEPT];
        private final int[] afters = new int[MOST_KEPT];

        void note(int number, int what, int before, int after) {
            redoable = 0;
            if (undoable >= MOST_KEPT) forgetFirst();
            numbers[undoable] = number;
            whats[undoable] = what;
            befores[undoable] = before;
            afters[undoable] = after;
            undoable++;
        }

        private void forgetFirst() {
            undoable = MOST_KEPT - 1;
            System.arraycopy(numbers, 1, numbers, 0, undoable);
            System.arraycopy(whats, 1, whats, 0, undoable);
            System.arraycopy(befores, 1, befores, 0, undoable);
            System.arraycopy(afters, 1, afters, 0, undoable);
        }

        void takeBack(Country land) {
            if (undoable <= 0) return;
            undoable--;
            redoable++;
            land.setNumber(numbers[undoable], whats[undoable], befores[undoable]);
        }

        void doAgain(Country land) {
            if (redoable <= 0 || undoable >= MOST_KEPT) return;
            land.setNumber(numbers[undoable], whats[undoable], afters[undoable]);
            undoable++;
            redoable--;
        }
    }

    private static final class Shelf {
        static final int NOTHING = 0, SMITH = 1, ROW = 2;
        static final int BYTES = 0, SHORTS = 1, INTS = 2, LONGS = 3, BOOLEANS = 4;

        int holds = NOTHING;
        int smith;
        int sort;
        int length;
        /** The elements of a ROW of any sort, cut to what that sort can hold. */
        final long[] cells = new long[MOST_ELEMENTS];

        void holdSmith(int number) {
            holds = SMITH;
            smith = number;
        }

        void holdRow(int newSort, int n) {
            holds = ROW;
            sort = newSort;
            length = n;
            Arrays.fill(cells, 0L);
        }

        boolean isBytes() {
            return holds == ROW && sort == BYTES;
        }

        boolean hasRange(int from, int n) {
            return from >= 0 && from <= length && n <= length - from;
        }

        long cut(long v) {
            switch (sort) {
                case BYTES: return (byte) v;
                case SHORTS: return (short) v;
                case INTS: return (int) v;
                case BOOLEANS: return v != 0 ? 1 : 0;
                default: return v;
            }
        }
    }

    /** The BODIES that are kept, their ACTS, and THE TRACE of the latest one. */
    private static final class Acts {
        static final int KINDS = 8;
        private static final int MOST_SMITHS = 50, MOST_TRACED = 24, MOST_DEEP = 30;
        private static final int HEATS = 0, DRAWS = 1, NAILS = 2, TELLS = 3, ACTS_OF_KIND = 4;
        /** SMITH, LAD, TONGS, ANVIL, CURATE, DON, KICKER, SISTER: the KIND above each. */
        private static final int[] ABOVE = {-1, 0, 0, 2, 1, 3, 0, 4};
        /** The bodies of each KIND for heats, draws, nails, tells; 0: it has none of its own. */
        private static final int[] BODIES = {
            1, 10, 11, 2,
            20, 0, 0, 0,
            0, 30, 0, 0,
            0, 41, 40, 0,
            0, 0, 50, 0,
            0, 0, 0, 60,
            70, 0, 0, 0,
            0, 80, 0, 81};

        final int[] kinds = new int[MOST_SMITHS];
        int smiths;
        int ran;
        private final int[] traced = new int[MOST_TRACED];
        private int number;
        private int kind;

        boolean has(int smith) {
            return smith >= 0 && smith < smiths;
        }

        int add(int newKind) {
            if (smiths >= MOST_SMITHS) return FULL;
            kinds[smiths] = newKind;
            return smiths++;
        }

        static boolean isUnder(int kind, int top) {
            int at = kind;
            for (int steps = 0; steps < KINDS && at >= 0 && at < KINDS; steps++) {
                if (at == top) return true;
                at = ABOVE[at];
            }
            return false;
        }

        int bodyThatRan(int i) {
            return i < 0 || i >= ran || i >= MOST_TRACED ? BAD : traced[i];
        }

        int perform(int smith, int act, int x) {
            ran = 0;
            if (!has(smith) || act < HEATS || act > TELLS) return 0;
            number = smith;
            kind = kinds[smith];
            return run(kind, act, x, 0);
        }

        /** Runs the body of a KIND, or of the next KIND above that has one. */
        private int run(int from, int act, int x, int deep) {
            int at = from;
            for (int steps = 0; steps < KINDS && at > 0 && BODIES[at * ACTS_OF_KIND + act] == 0; steps++) {
                at = ABOVE[at];
            }
            if (at < 0 || deep > MOST_DEEP) return 0;
            int body = BODIES[at * ACTS_OF_KIND + act];
            if (ran < MOST_TRACED) traced[ran] = body;
            ran++;
            return work(body, ABOVE[at], x, deep + 1);
        }

        /** What a body does; up is the KIND above its own, from which super goes on. */
        private int work(int body, int up, int x, int deep) {
            switch (body) {
                case 1: return x + number;
                case 2: return run(kind, DRAWS, x, deep) - run(kind, NAILS, 1, deep);
                case 10: return run(kind, HEATS, x, deep) * 2;
                case 11: return x ^ number;
                case 20: return run(up, HEATS, x, deep) + 3;
                case 30: return -run(up, DRAWS, x, deep);
                case 40: return run(up, NAILS, x, deep) * 3;
                case 41: return run(up, DRAWS, x + 1, deep);
                case 50: return run(up, NAILS, x, deep) - run(kind, HEATS, 2, deep);
                case 60: return run(up, TELLS, x, deep) ^ 5;
                case 70: return run(up, HEATS, x, deep) * 2;
                case 80: return run(up, DRAWS, x, deep) + run(kind, NAILS, 2, deep);
                case 81: return run(up, TELLS, x, deep) - 1;
                default: return 0;
            }
        }
    }
}
