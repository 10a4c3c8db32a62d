/**
 * A quay on which lanterns hang by what is missing. The document (DOC.md) numbers the promises that this class keeps.
 */
public final class MissingLamps {
    public static final int NONE = -1;

    private static final int TAPE_MOST = 1600;
    private static final int FED_AT_ONCE = 20;
    private static final int STATEMENTS_MOST = 80;
    private static final int SIDE_LEAST = 3;
    private static final int SIDE_MOST = 7;
    private static final int CELLS_MOST = SIDE_MOST * SIDE_MOST;
    private static final int THINGS_MOST = 9;
    private static final int SETS_MOST = 1 << THINGS_MOST;
    private static final int FOLK_MOST = 6;
    private static final int NAME_MOST = 6;
    private static final int DIGITS_MOST = 4;
    private static final int OPEN_MOST = 7;
    private static final int HUE_MOST = 9;
    private static final int HIGH_MOST = 9;
    private static final int GLOW_MOST = 9;
    private static final int PACE_MOST = 9;
    private static final int PACE_UNTOLD = 3;
    private static final int NIGHT_MOST = 999;
    private static final int AGE_MOST = 99;
    private static final int AHEAD_MOST = 40;
    private static final int PLAN_MOST = 20;
    private static final int MET_NIGHTS_MOST = 30;
    private static final int MET_ROWS_MOST = 16;
    private static final int MET_ROW = 4;
    private static final int KEPT_MOST = 40;
    private static final int ACTS_MOST = 20;
    private static final int GALE_SCALE = 100;
    private static final int RESULT_MOST = 1000000;
    private static final int IMAGE_MOST = 2 + 2 * THINGS_MOST + 2 * FOLK_MOST + 1;
    private static final int CHECK_FIRST = 241;
    private static final int CHECK_MODULUS = 251;

    // A place is row * STRIDE + column. The stride is wider than any quay, so that a step over
    // a side falls on a place that is never a cell, and a set of places fits the bits of a long.
    private static final int STRIDE = 8;

    private static final int FAULT_TEXT = 1;
    private static final int FAULT_TWICE = 2;
    private static final int FAULT_UNKNOWN = 3;
    private static final int FAULT_NUMBER = 4;
    private static final int FAULT_OPEN = 5;
    private static final int FAULT_MANY = 6;

    private static final int REFUSED_TAPE = 0;
    private static final int REFUSED_QUAY = 1;
    private static final int REFUSED_NIGHTS = 2;
    private static final int REFUSED_ACT = 3;
    private static final int REFUSED_UNDO = 4;
    private static final int REFUSED_TOLD = 5;
    private static final int REFUSALS = 6;

    // An own word's number is its place in this list; a blank ends each.
    private static final String OWN_WORDS = "quay by pace gale wall lack at hue high has folk home glows finds loses night age lost near if or and not all min max ";
    private static final int OWN_COUNT = 26;
    private static final int W_QUAY = 0;
    private static final int W_BY = 1;
    private static final int W_PACE = 2;
    private static final int W_GALE = 3;
    private static final int W_WALL = 4;
    private static final int W_LACK = 5;
    private static final int W_AT = 6;
    private static final int W_HUE = 7;
    private static final int W_HIGH = 8;
    private static final int W_HAS = 9;
    private static final int W_FOLK = 10;
    private static final int W_HOME = 11;
    private static final int W_GLOWS = 12;
    private static final int W_FINDS = 13;
    private static final int W_LOSES = 14;
    private static final int W_NIGHT = 15;
    private static final int W_AGE = 16;
    private static final int W_LOST = 17;
    private static final int W_NEAR = 18;
    private static final int W_IF = 19;
    private static final int W_OR = 20;
    private static final int W_AND = 21;
    private static final int W_NOT = 22;
    private static final int W_ALL = 23;
    private static final int W_MIN = 24;
    private static final int W_MAX = 25;

    private static final int TOKEN_END = 0;
    private static final int TOKEN_NAME = 1;
    private static final int TOKEN_OWN = 2;
    private static final int TOKEN_NUMBER = 3;
    private static final int TOKEN_SIGN = 4;
    private static final int TOKEN_BAD = 5;

    private static final int LETTER_BITS = 5;
    private static final int LETTER_MASK = 31;

    private static final int RULE_GLOWS = 0;
    private static final int RULE_FINDS = 1;
    private static final int RULE_LOSES = 2;
    private static final int RULES = 3;

    // In a rule's code a number stands for itself, and this plus an own word's number or a sign's
    // byte for what is to be done (no sign's byte is below the count of own words).
    private static final int OP = 10000;

    // Seven levels of brackets hold back at most seven results each.
    private static final int STACK_SIZE = 128;
    // The stack's lowest places are never a result, so that no operation can reach below it.
    private static final int STACK_FLOOR = 2;

    private final int[] tape = new int[TAPE_MOST];
    private int tapeSize;
    private int faultKind;
    private int faultPlace = NONE;
    private Quay plan = new Quay();
    private Quay spare = new Quay();
    private final StatementReader statements = new StatementReader(spare);
    private final State now = new State();
    private final KeptRows keptRows = new KeptRows();
    private final Past past = new Past();
    private final Harbour harbour = new Harbour(plan);
    private final Planner planner = new Planner(harbour);
    private final int[] imageBytes = new int[IMAGE_MOST];
    private int imageSize;
    private final int[] refusals = new int[REFUSALS];
    private int drawn = 1;

    public MissingLamps() {
    }

    public int feed(int a, int b, int c, int d, int e) {
        if (tapeSize + FED_AT_ONCE > TAPE_MOST) {
            return refuse(REFUSED_TAPE);
        }
        putOnTape(a);
        putOnTape(b);
        putOnTape(c);
        putOnTape(d);
        putOnTape(e);
        return tapeSize;
    }

    public boolean end(int n) {
        if (n < 0 || n > tapeSize) {
            return refused(REFUSED_TAPE);
        }
        tapeSize = n;
        return true;
    }

    public int quay() {
        int length = takeTape();
        if (!statements.reads(tape, length, spare)) {
            faultKind = statements.faultKind();
            faultPlace = statements.faultPlace();
            return refuse(REFUSED_QUAY);
        }
        faultKind = 0;
        faultPlace = NONE;
        Quay old = plan;
        plan = spare;
        spare = old;
        harbour.moveTo(plan);
        plan.setFirst(now);
        forgetActs();
        planner.forgetMet();
        return plan.statements;
    }

    public int fault(int what) {
        if (what == 0) {
            return faultKind;
        }
        return what == 1 ? faultPlace : NONE;
    }

    public int has(int what) {
        switch (what) {
            case 0:
                return plan.columns;
            case 1:
                return plan.rows;
            case 2:
                return Long.bitCount(plan.walls);
            case 3:
                return plan.things;
            case 4:
                return plan.folk;
            case 5:
                return now.night;
            case 6:
                return Integer.bitCount(now.missing);
            case 7:
                return Long.bitCount(harbour.lit(now, NONE));
            case 8:
                return harbour.countAtHome(now);
            case 9:
                return keptRows.size;
            case 10:
                return planner.metCount;
            case 11:
                return past.size;
            case 12:
                return drawn;
            default:
                return NONE;
        }
    }

    public int letter(int kind, int which, int k) {
        if (k < 0 || k >= NAME_MOST) {
            return NONE;
        }
        if (kind == 0 && isThing(which)) {
            return letterOf(plan.thingNames[which], k);
        }
        if (kind == 1 && isFolk(which)) {
            return letterOf(plan.folkNames[which], k);
        }
        return NONE;
    }

    public int cell(int column, int row, int what) {
        if (!plan.hasCell(column, row)) {
            return NONE;
        }
        long here = bitOf(placeOf(column, row));
        switch (what) {
            case 0:
                return (plan.walls & here) != 0 ? 1 : 0;
            case 1:
                return (harbour.lit(now, NONE) & here) != 0 ? 1 : 0;
            case 2:
                return harbour.countLanterns(now, here);
            default:
                return NONE;
        }
    }

    public int thing(int thing, int what) {
        if (!isThing(thing)) {
            return NONE;
        }
        switch (what) {
            case 0:
                return columnOf(plan.thingPlaces[thing]);
            case 1:
                return rowOf(plan.thingPlaces[thing]);
            case 2:
                return plan.thingHues[thing];
            case 3:
                return plan.thingHighs[thing];
            case 4:
                return now.isMissing(thing) ? 1 : 0;
            case 5:
                return now.ages[thing];
            case 6:
                return now.isMissing(thing) ? harbour.glow(now, thing) : NONE;
            default:
                return NONE;
        }
    }

    public int folk(int folk, int what) {
        if (!isFolk(folk)) {
            return NONE;
        }
        switch (what) {
            case 0:
                return columnOf(now.places[folk]);
            case 1:
                return rowOf(now.places[folk]);
            case 2:
                return columnOf(plan.homes[folk]);
            case 3:
                return rowOf(plan.homes[folk]);
            case 4:
                return harbour.road(now.places[folk], plan.homes[folk], harbour.lit(now, NONE));
            default:
                return NONE;
        }
    }

    public int later(int folk, int n, int what) {
        if (!isFolk(folk) || !comes(n, AHEAD_MOST) || what < 0 || what > 1) {
            return NONE;
        }
        int place = planner.behind(now, n).places[folk];
        return what == 0 ? columnOf(place) : rowOf(place);
    }

    public int home(int folk) {
        return isFolk(folk) ? planner.nightsTillHome(now, folk) : NONE;
    }

    public int missing(int thing, int n) {
        if (!isThing(thing) || !comes(n, AHEAD_MOST)) {
            return NONE;
        }
        return planner.behind(now, n).isMissing(thing) ? 1 : 0;
    }

    public int losses(int folk, int n) {
        return isFolk(folk) && comes(n, PLAN_MOST) ? planner.leastLosses(now, folk, n) : NONE;
    }

    public int worst(int n, int what) {
        if (n < 1 || !comes(n, PLAN_MOST) || what < 0 || what > 1) {
            return NONE;
        }
        return planner.worstFound(now, n, what == 0);
    }

    public int cover() {
        return planner.leastCover(now);
    }

    public int send(int what) {
        if (what < 0 || what >= 2 + plan.folk) {
            return NONE;
        }
        planner.arrange(now);
        if (what == 0) {
            return planner.sentCount;
        }
        return what == 1 ? planner.sentSteps : planner.sentThings[what - 2];
    }

    public int odds(int folk) {
        if (plan.things == 0 || now.night >= NIGHT_MOST) {
            return NONE;
        }
        if (folk == NONE) {
            return GALE_SCALE * plan.things;
        }
        return isFolk(folk) ? planner.rowsToHome(now, folk) : NONE;
    }

    public int meet() {
        int length = takeTape();
        return planner.takesMet(tape, length) ? planner.metCount : refuse(REFUSED_TOLD);
    }

    public int hues(int thing) {
        return isThing(thing) ? planner.huesLeft(now, thing) : NONE;
    }

    public int tells(int thing, int what) {
        if (!isThing(thing) || what < 0 || what > 2) {
            return NONE;
        }
        planner.findTelling(now, thing, planner.huesLeft(now, thing));
        if (what == 0) {
            return planner.tellingNights;
        }
        return what == 1 ? planner.tellingFolk : planner.tellingLeft;
    }

    public int nights(int n) {
        if (n < 1 || !comes(n, AHEAD_MOST)) {
            return refuse(REFUSED_NIGHTS);
        }
        past.push(now, keptRows);
        int found = 0;
        for (int k = 0; k < n; k++) {
            found += passAndKeep(NONE);
        }
        return found;
    }

    public int chance(int n) {
        if (n < 1 || !comes(n, AHEAD_MOST)) {
            return refuse(REFUSED_NIGHTS);
        }
        past.push(now, keptRows);
        int gales = 0;
        for (int k = 0; k < n; k++) {
            int dark = drawDark();
            if (dark != NONE) {
                gales++;
            }
            passAndKeep(dark);
        }
        return gales;
    }

    public boolean lose(int thing) {
        if (!isThing(thing) || now.isMissing(thing)) {
            return refused(REFUSED_ACT);
        }
        turnByAct(thing);
        return true;
    }

    public boolean find(int thing) {
        if (!isThing(thing) || !now.isMissing(thing)) {
            return refused(REFUSED_ACT);
        }
        turnByAct(thing);
        return true;
    }

    public boolean lead(int folk, int column, int row) {
        if (!isFolk(folk) || !plan.hasFreeCell(column, row) || now.places[folk] == placeOf(column, row)) {
            return refused(REFUSED_ACT);
        }
        past.push(now, keptRows);
        now.places[folk] = placeOf(column, row);
        return true;
    }

    public boolean undo() {
        if (past.size == 0) {
            return refused(REFUSED_UNDO);
        }
        past.pop(now, keptRows);
        return true;
    }

    public boolean seed(int seed) {
        if (seed < 0) {
            return refused(REFUSED_TOLD);
        }
        drawn = seed;
        return true;
    }

    public int kept(int k, int what) {
        if (k < 0 || k >= keptRows.size) {
            return NONE;
        }
        switch (what) {
            case 0:
                return keptRows.nights[k];
            case 1:
                return keptRows.things[k];
            case 2:
                return keptRows.founds[k];
            default:
                return NONE;
        }
    }

    public int image() {
        imageBytes[0] = now.night >> 8;
        imageBytes[1] = now.night & 255;
        int size = 2;
        for (int t = 0; t < plan.things; t++) {
            imageBytes[size] = now.isMissing(t) ? 1 : 0;
            imageBytes[size + 1] = now.ages[t];
            size += 2;
        }
        for (int f = 0; f < plan.folk; f++) {
            imageBytes[size] = columnOf(now.places[f]);
            imageBytes[size + 1] = rowOf(now.places[f]);
            size += 2;
        }
        imageBytes[size] = checkOf(imageBytes, size);
        imageSize = size + 1;
        return imageSize;
    }

    public int octet(int k) {
        return k >= 0 && k < imageSize ? imageBytes[k] : NONE;
    }

    public boolean on() {
        int length = takeTape();
        if (!holdsImage(length)) {
            return refused(REFUSED_TOLD);
        }
        now.night = nightOnTape();
        now.missing = 0;
        for (int t = 0; t < plan.things; t++) {
            now.missing |= tape[2 + 2 * t] << t;
            now.ages[t] = tape[3 + 2 * t];
        }
        int first = 2 + 2 * plan.things;
        for (int f = 0; f < plan.folk; f++) {
            now.places[f] = placeOf(tape[first + 2 * f], tape[first + 2 * f + 1]);
        }
        forgetActs();
        return true;
    }

    public int status(int what) {
        return what >= 0 && what < REFUSALS ? refusals[what] : NONE;
    }

    private int refuse(int kind) {
        refusals[kind]++;
        return NONE;
    }

    private boolean refused(int kind) {
        refusals[kind]++;
        return false;
    }

    private void putOnTape(int number) {
        for (int shift = 24; shift >= 0; shift -= 8) {
            tape[tapeSize] = (number >>> shift) & 255;
            tapeSize++;
        }
    }

    private int takeTape() {
        int length = tapeSize;
        tapeSize = 0;
        return length;
    }

    private void forgetActs() {
        keptRows.size = 0;
        past.size = 0;
    }

    private boolean isThing(int thing) {
        return thing >= 0 && thing < plan.things;
    }

    private boolean isFolk(int folk) {
        return folk >= 0 && folk < plan.folk;
    }

    private boolean comes(int n, int most) {
        return plan.columns > 0 && n >= 0 && n <= most && now.night + n <= NIGHT_MOST;
    }

    private void turnByAct(int thing) {
        past.push(now, keptRows);
        keptRows.add(now.night, thing, now.isMissing(thing) ? 1 : 0);
        now.turn(thing);
    }

    /** One night goes by, told as kept; the count of things found in it. */
    private int passAndKeep(int dark) {
        int night = now.night;
        harbour.pass(now, 1, dark);
        for (int t = 0; t < plan.things; t++) {
            if ((harbour.foundThings >> t & 1) != 0) {
                keptRows.add(night, t, 1);
            } else if ((harbour.lostThings >> t & 1) != 0) {
                keptRows.add(night, t, 0);
            }
        }
        return Integer.bitCount(harbour.foundThings);
    }

    /** The thing whose lantern a gale puts out in the night that begins, or NONE. */
    private int drawDark() {
        boolean blows = draw(GALE_SCALE) < plan.gale;
        return blows && plan.things > 0 ? draw(plan.things) : NONE;
    }

    private int draw(int m) {
        drawn = (int) ((1103515245L * drawn + 12345L) & 0x7fffffffL);
        return m > 0 ? (drawn >> 6) % m : 0;
    }

    private int nightOnTape() {
        return tape[0] * 256 + tape[1];
    }

    private boolean holdsImage(int length) {
        int due = 2 + 2 * plan.things + 2 * plan.folk + 1;
        if (plan.columns == 0 || length != due || nightOnTape() > NIGHT_MOST) {
            return false;
        }
        for (int t = 0; t < plan.things; t++) {
            if (tape[2 + 2 * t] > 1 || tape[3 + 2 * t] > AGE_MOST) {
                return false;
            }
        }
        int first = 2 + 2 * plan.things;
        for (int f = 0; f < plan.folk; f++) {
            if (!plan.hasFreeCell(tape[first + 2 * f], tape[first + 2 * f + 1])) {
                return false;
            }
        }
        return tape[due - 1] == checkOf(tape, due - 1);
    }

    private static int checkOf(int[] bytes, int count) {
        int check = CHECK_FIRST;
        for (int k = 0; k < count && k < bytes.length; k++) {
            check = (5 * check + bytes[k]) % CHECK_MODULUS;
        }
        return check;
    }

    private static int letterOf(int name, int k) {
        return name >>> LETTER_BITS * k & LETTER_MASK;
    }

    private static int placeOf(int column, int row) {
        return row * STRIDE + column;
    }

    private static int columnOf(int place) {
        return place % STRIDE;
    }

    private static int rowOf(int place) {
        return place / STRIDE;
    }

    private static long bitOf(int place) {
        return 1L << place;
    }

    /** What a text tells: nothing of it changes while nights go by. */
    private static final class Quay {
        int statements;
        int columns;
        int rows;
        int pace;
        int gale;
        // All cells, walls or not.
        long ground;
        long walls;
        int things;
        final int[] thingNames = new int[THINGS_MOST];
        final int[] thingPlaces = new int[THINGS_MOST];
        final int[] thingHues = new int[THINGS_MOST];
        final int[] thingHighs = new int[THINGS_MOST];
        int missingFirst;
        int folk;
        final int[] folkNames = new int[FOLK_MOST];
        final int[] starts = new int[FOLK_MOST];
        final int[] homes = new int[FOLK_MOST];
        final Rules rules = new Rules();

        void clear() {
            statements = 0;
            columns = 0;
            rows = 0;
            pace = PACE_UNTOLD;
            gale = 0;
            ground = 0;
            walls = 0;
            things = 0;
            missingFirst = 0;
            folk = 0;
            rules.clear();
        }

        void setFirst(State state) {
            state.night = 0;
            state.missing = missingFirst;
            for (int t = 0; t < THINGS_MOST; t++) {
                state.ages[t] = 0;
            }
            System.arraycopy(starts, 0, state.places, 0, FOLK_MOST);
        }

        boolean hasCell(int column, int row) {
            return column >= 0 && column < columns && row >= 0 && row < rows;
        }

        boolean hasFreeCell(int column, int row) {
            return hasCell(column, row) && (walls & bitOf(placeOf(column, row))) == 0;
        }

        void setSize(int width, int height) {
            columns = width;
            rows = height;
            ground = 0;
            for (int row = 0; row < rows; row++) {
                ground |= (1L << columns) - 1 << STRIDE * row;
            }
        }

        /** Where something is that no wall may be put on. */
        long taken() {
            long all = walls;
            for (int t = 0; t < things; t++) {
                all |= bitOf(thingPlaces[t]);
            }
            for (int f = 0; f < folk; f++) {
                all |= bitOf(starts[f]) | bitOf(homes[f]);
            }
            return all;
        }

        int thingNamed(int name) {
            for (int t = 0; t < things; t++) {
                if (thingNames[t] == name) {
                    return t;
                }
            }
            return NONE;
        }

        boolean isNamed(int name) {
            for (int f = 0; f < folk; f++) {
                if (folkNames[f] == name) {
                    return true;
                }
            }
            return thingNamed(name) != NONE;
        }
    }

    /** The sums and tests of glows, finds and loses, as code for a stack. */
    private static final class Rules {
        final int[] code = new int[TAPE_MOST];
        final int[] firsts = new int[RULES];
        final int[] ends = new int[RULES];
        private int size;

        void clear() {
            size = 0;
            for (int rule = 0; rule < RULES; rule++) {
                firsts[rule] = 0;
                ends[rule] = 0;
            }
        }

        boolean isTold(int rule) {
            return ends[rule] > firsts[rule];
        }

        void begin(int rule) {
            firsts[rule] = size;
        }

        void close(int rule) {
            ends[rule] = size;
        }

        /** Always true, so that a reader can go on behind it. */
        boolean put(int item) {
            if (size < code.length) {
                code[size] = item;
                size++;
            }
            return true;
        }
    }

    /** What is so of a quay at one time. */
    private static final class State {
        int night;
        int missing;
        final int[] ages = new int[THINGS_MOST];
        final int[] places = new int[FOLK_MOST];
        // A thing that is supposed to have another hue than the text tells; NONE for no such thing.
        int supposedThing = NONE;
        int supposedHue;

        void copyFrom(State other) {
            night = other.night;
            missing = other.missing;
            System.arraycopy(other.ages, 0, ages, 0, THINGS_MOST);
            System.arraycopy(other.places, 0, places, 0, FOLK_MOST);
            supposedThing = other.supposedThing;
            supposedHue = other.supposedHue;
        }

        boolean isMissing(int thing) {
            return (missing >> thing & 1) != 0;
        }

        /** What is missing is found, what is not is lost. */
        void turn(int thing) {
            missing ^= 1 << thing;
            ages[thing] = 0;
        }
    }

    /** The last things that were found or lost, the oldest first. */
    private static final class KeptRows {
        final int[] nights = new int[KEPT_MOST];
        final int[] things = new int[KEPT_MOST];
        final int[] founds = new int[KEPT_MOST];
        int size;

        void add(int night, int thing, int found) {
            if (size >= KEPT_MOST) {
                size = KEPT_MOST - 1;
                System.arraycopy(nights, 1, nights, 0, size);
                System.arraycopy(things, 1, things, 0, size);
                System.arraycopy(founds, 1, founds, 0, size);
            }
            nights[size] = night;
            things[size] = thing;
            founds[size] = found;
            size++;
        }

        void copyFrom(KeptRows other) {
            size = other.size;
            System.arraycopy(other.nights, 0, nights, 0, size);
            System.arraycopy(other.things, 0, things, 0, size);
            System.arraycopy(other.founds, 0, founds, 0, size);
        }
    }

    /** How all was ahead of each of the last acts, as a ring. */
    private static final class Past {
        private final State[] states = new State[ACTS_MOST];
        private final KeptRows[] rows = new KeptRows[ACTS_MOST];
        private int next;
        int size;

        Past() {
            for (int k = 0; k < ACTS_MOST; k++) {
                states[k] = new State();
                rows[k] = new KeptRows();
            }
        }

        void push(State state, KeptRows kept) {
            states[next].copyFrom(state);
            rows[next].copyFrom(kept);
            next = (next + 1) % ACTS_MOST;
            size = Math.min(size + 1, ACTS_MOST);
        }

        void pop(State state, KeptRows kept) {
            if (size > 0) {
                next = (next + ACTS_MOST - 1) % ACTS_MOST;
                size--;
                state.copyFrom(states[next]);
                kept.copyFrom(rows[next]);
            }
        }
    }

    /** The words, numbers and signs of a text, one at a time, and the first fault that was met. */
    private static final class Reader {
        private final int[] ownNames = new int[OWN_COUNT];
        private int[] text = new int[0];
        private int length;
        private int at;
        int kind;
        int value;
        int first;
        // Where the fault is if this may not stand here: its first byte, or the byte that makes it too long.
        int place;
        int taken;
        int takenPlace;
        int faultKind;
        int faultPlace;

        Reader() {
            int word = 0;
            int name = 0;
            int letters = 0;
            for (int k = 0; k < OWN_WORDS.length() && word < OWN_COUNT; k++) {
                char c = OWN_WORDS.charAt(k);
                if (c == ' ') {
                    ownNames[word] = name;
                    word++;
                    name = 0;
                    letters = 0;
                } else {
                    name |= (c - 'a' + 1) << LETTER_BITS * letters;
                    letters++;
                }
            }
        }

        void begin(int[] bytes, int count) {
            text = bytes;
            length = Math.min(count, bytes.length);
            at = 0;
            kind = TOKEN_END;
            faultKind = 0;
            faultPlace = NONE;
            advance();
        }

        void advance() {
            boolean needsBlank = kind == TOKEN_NAME || kind == TOKEN_OWN || kind == TOKEN_NUMBER;
            int end = at;
            while (at < length && (text[at] == ' ' || text[at] == '\n')) {
                at++;
            }
            first = at;
            place = at;
            value = 0;
            if (at >= length) {
                kind = TOKEN_END;
            } else if (text[at] >= 'a' && text[at] <= 'z') {
                readWord(needsBlank && at == end);
            } else if (text[at] >= '0' && text[at] <= '9') {
                readNumber(needsBlank && at == end);
            } else {
                kind = TOKEN_SIGN;
                value = text[at];
                at++;
            }
        }

        private void readWord(boolean touches) {
            int name = 0;
            for (int letters = 0; at < length && text[at] >= 'a' && text[at] <= 'z'; letters++) {
                if (letters == NAME_MOST) {
                    kind = TOKEN_BAD;
                    place = at;
                    return;
                }
                name |= (text[at] - 'a' + 1) << LETTER_BITS * letters;
                at++;
            }
            kind = touches ? TOKEN_BAD : TOKEN_NAME;
            value = name;
            for (int word = 0; word < OWN_COUNT && kind == TOKEN_NAME; word++) {
                if (ownNames[word] == name) {
                    kind = TOKEN_OWN;
                    value = word;
                }
            }
        }

        private void readNumber(boolean touches) {
            for (int digits = 0; at < length && text[at] >= '0' && text[at] <= '9'; digits++) {
                if (digits == DIGITS_MOST) {
                    kind = TOKEN_BAD;
                    place = at;
                    return;
                }
                value = 10 * value + text[at] - '0';
                at++;
            }
            kind = touches ? TOKEN_BAD : TOKEN_NUMBER;
        }

        boolean isOwn(int word) {
            return kind == TOKEN_OWN && value == word;
        }

        boolean isSign(int sign) {
            return kind == TOKEN_SIGN && value == sign;
        }

        /** Always false, so that no reader goes on behind a fault. */
        boolean faults(int fault, int where) {
            faultKind = fault;
            faultPlace = where;
            return false;
        }

        boolean takesOwn(int word) {
            if (!isOwn(word)) {
                return faults(FAULT_TEXT, place);
            }
            advance();
            return true;
        }

        boolean takesSign(int sign) {
            if (!isSign(sign)) {
                return faults(FAULT_TEXT, place);
            }
            advance();
            return true;
        }

        boolean takesName() {
            if (kind != TOKEN_NAME) {
                return faults(FAULT_TEXT, place);
            }
            taken = value;
            takenPlace = place;
            advance();
            return true;
        }

        boolean takesNumber(int least, int most) {
            if (kind != TOKEN_NUMBER) {
                return faults(FAULT_TEXT, place);
            }
            if (value < least || value > most) {
                return faults(FAULT_NUMBER, place);
            }
            taken = value;
            takenPlace = place;
            advance();
            return true;
        }
    }

    /** Reads sums and tests, and puts down their code: what is worked with first, then what is done. */
    private static final class SumReader {
        private final Reader reader;
        private Rules rules;
        private int rule;

        SumReader(Reader reader, Rules rules) {
            this.reader = reader;
            this.rules = rules;
        }

        void begin(Rules target, int which) {
            rules = target;
            rule = which;
        }

        private boolean takesTest(int open) {
            boolean goes = takesBoth(open);
            for (int k = 0; k < TAPE_MOST && goes && reader.isOwn(W_OR); k++) {
                reader.advance();
                goes = takesBoth(open) && rules.put(OP + W_OR);
            }
            return goes;
        }

        private boolean takesBoth(int open) {
            boolean goes = takesFact(open);
            for (int k = 0; k < TAPE_MOST && goes && reader.isOwn(W_AND); k++) {
                reader.advance();
                goes = takesFact(open) && rules.put(OP + W_AND);
            }
            return goes;
        }

        private boolean takesFact(int open) {
            if (reader.isOwn(W_NOT)) {
                return opens(open, true) && takesFact(open + 1) && rules.put(OP + W_NOT);
            }
            if (reader.isSign('[')) {
                return opens(open, true) && takesTest(open + 1) && reader.takesSign(']');
            }
            if (reader.isOwn(W_ALL)) {
                reader.advance();
                return rules.put(OP + W_ALL);
            }
            return takesSum(open) && takesComparison(open);
        }

        private boolean takesComparison(int open) {
            int sign = reader.value;
            if (!reader.isSign('<') && !reader.isSign('>') && !reader.isSign('=')) {
                return reader.faults(FAULT_TEXT, reader.place);
            }
            reader.advance();
            return takesSum(open) && rules.put(OP + sign);
        }

        private boolean takesSum(int open) {
            boolean goes = takesProduct(open);
            for (int k = 0; k < TAPE_MOST && goes && (reader.isSign('+') || reader.isSign('-')); k++) {
                int sign = reader.value;
                reader.advance();
                goes = takesProduct(open) && rules.put(OP + sign);
            }
            return goes;
        }

        private boolean takesProduct(int open) {
            boolean goes = takesPart(open);
            for (int k = 0; k < TAPE_MOST && goes && isFactorSign(); k++) {
                int sign = reader.value;
                reader.advance();
                goes = takesPart(open) && rules.put(OP + sign);
            }
            return goes;
        }

        private boolean isFactorSign() {
            return reader.isSign('*') || reader.isSign('/') || reader.isSign('%');
        }

        private boolean takesPart(int open) {
            if (reader.kind == TOKEN_NUMBER) {
                rules.put(reader.value);
                reader.advance();
                return true;
            }
            if (reader.isSign('(')) {
                return opens(open, true) && takesSum(open + 1) && reader.takesSign(')');
            }
            int word = reader.kind == TOKEN_OWN ? reader.value : NONE;
            if (isValue(word)) {
                reader.advance();
                return rules.put(OP + word);
            }
            if (word == W_MIN || word == W_MAX) {
                reader.advance();
                return opens(open, reader.isSign('(')) && takesPair(open + 1) && rules.put(OP + word);
            }
            if (word == W_IF) {
                reader.advance();
                return opens(open, reader.isSign('(')) && takesTest(open + 1) && reader.takesSign(',')
                        && takesPair(open + 1) && rules.put(OP + word);
            }
            return reader.faults(FAULT_TEXT, reader.place);
        }

        private boolean isValue(int word) {
            switch (word) {
                case W_NIGHT:
                case W_HUE:
                case W_HIGH:
                case W_AGE:
                    return true;
                case W_LOST:
                    return rule != RULE_FINDS;
                case W_NEAR:
                    return rule == RULE_FINDS;
                default:
                    return false;
            }
        }

        private boolean takesPair(int open) {
            return takesSum(open) && reader.takesSign(',') && takesSum(open) && reader.takesSign(')');
        }

        /** Takes a bracket or a not, if one stands here, unless as many are open as may be. */
        private boolean opens(int open, boolean stands) {
            if (!stands) {
                return reader.faults(FAULT_TEXT, reader.place);
            }
            if (open >= OPEN_MOST) {
                return reader.faults(FAULT_OPEN, reader.place);
            }
            reader.advance();
            return true;
        }
    }

    /** Reads a text, statement by statement. */
    private static final class StatementReader {
        private final Reader reader = new Reader();
        private final SumReader sums;
        private Quay target;
        private int spot;

        StatementReader(Quay target) {
            this.target = target;
            sums = new SumReader(reader, target.rules);
        }

        int faultKind() {
            return reader.faultKind;
        }

        int faultPlace() {
            return reader.faultPlace;
        }

        boolean reads(int[] text, int length, Quay quay) {
            target = quay;
            target.clear();
            reader.begin(text, length);
            boolean goes = takesSize() && reader.takesSign(';');
            target.statements = 1;
            for (int k = 1; k <= STATEMENTS_MOST && goes && reader.kind != TOKEN_END; k++) {
                goes = k < STATEMENTS_MOST ? takesStatement() && reader.takesSign(';')
                        : reader.faults(FAULT_MANY, reader.first);
                target.statements++;
            }
            return goes;
        }

        private boolean takesSize() {
            if (!reader.takesOwn(W_QUAY) || !reader.takesNumber(SIDE_LEAST, SIDE_MOST)) {
                return false;
            }
            int width = reader.taken;
            if (!reader.takesOwn(W_BY) || !reader.takesNumber(SIDE_LEAST, SIDE_MOST)) {
                return false;
            }
            target.setSize(width, reader.taken);
            return true;
        }

        private boolean takesStatement() {
            int word = reader.kind == TOKEN_OWN ? reader.value : NONE;
            switch (word) {
                case W_PACE:
                    return takesPace();
                case W_GALE:
                    return takesGale();
                case W_WALL:
                    return takesWall();
                case W_LACK:
                    return takesLack();
                case W_HAS:
                    return takesHas();
                case W_FOLK:
                    return takesFolk();
                case W_GLOWS:
                    return takesRule(RULE_GLOWS);
                case W_FINDS:
                    return takesRule(RULE_FINDS);
                case W_LOSES:
                    return takesRule(RULE_LOSES);
                default:
                    return reader.faults(FAULT_TEXT, reader.place);
            }
        }

        private boolean takesPace() {
            reader.advance();
            if (!reader.takesNumber(1, PACE_MOST)) {
                return false;
            }
            target.pace = reader.taken;
            return true;
        }

        private boolean takesGale() {
            reader.advance();
            if (!reader.takesNumber(0, GALE_SCALE)) {
                return false;
            }
            target.gale = reader.taken;
            return true;
        }

        private boolean takesWall() {
            reader.advance();
            if (!takesCell(target.taken())) {
                return false;
            }
            target.walls |= bitOf(spot);
            return true;
        }

        private boolean takesLack() {
            int t = target.things;
            if (t >= THINGS_MOST) {
                return reader.faults(FAULT_MANY, reader.first);
            }
            reader.advance();
            if (!takesNewName()) {
                return false;
            }
            target.thingNames[t] = reader.taken;
            if (!reader.takesOwn(W_AT) || !takesCell(target.walls)) {
                return false;
            }
            target.thingPlaces[t] = spot;
            if (!reader.takesOwn(W_HUE) || !reader.takesNumber(1, HUE_MOST)) {
                return false;
            }
            target.thingHues[t] = reader.taken;
            if (!reader.takesOwn(W_HIGH) || !reader.takesNumber(0, HIGH_MOST)) {
                return false;
            }
            target.thingHighs[t] = reader.taken;
            target.missingFirst |= 1 << t;
            target.things = t + 1;
            return true;
        }

        private boolean takesHas() {
            reader.advance();
            if (!reader.takesName()) {
                return false;
            }
            int t = target.thingNamed(reader.taken);
            if (t == NONE || (target.missingFirst >> t & 1) == 0) {
                return reader.faults(FAULT_UNKNOWN, reader.takenPlace);
            }
            target.missingFirst &= ~(1 << t);
            return true;
        }

        private boolean takesFolk() {
            int f = target.folk;
            if (f >= FOLK_MOST) {
                return reader.faults(FAULT_MANY, reader.first);
            }
            reader.advance();
            if (!takesNewName()) {
                return false;
            }
            target.folkNames[f] = reader.taken;
            if (!reader.takesOwn(W_AT) || !takesCell(target.walls)) {
                return false;
            }
            target.starts[f] = spot;
            if (!reader.takesOwn(W_HOME) || !takesCell(target.walls)) {
                return false;
            }
            target.homes[f] = spot;
            target.folk = f + 1;
            return true;
        }

        private boolean takesRule(int rule) {
            if (target.rules.isTold(rule)) {
                return reader.faults(FAULT_MANY, reader.first);
            }
            reader.advance();
            sums.begin(target.rules, rule);
            target.rules.begin(rule);
            boolean goes = rule == RULE_GLOWS ? sums.takesSum(0) : sums.takesTest(0);
            target.rules.close(rule);
            return goes;
        }

        private boolean takesNewName() {
            if (!reader.takesName()) {
                return false;
            }
            return !target.isNamed(reader.taken) || reader.faults(FAULT_TWICE, reader.takenPlace);
        }

        /** A column and a row, of a cell that is none of those barred. */
        private boolean takesCell(long barred) {
            if (!reader.takesNumber(0, target.columns - 1)) {
                return false;
            }
            int column = reader.taken;
            if (!reader.takesNumber(0, target.rows - 1)) {
                return false;
            }
            spot = placeOf(column, reader.taken);
            return (barred & bitOf(spot)) == 0 || reader.faults(FAULT_NUMBER, reader.takenPlace);
        }
    }

    /** Works out a rule's code for one thing. */
    private static final class Reckoner {
        private final int[] stack = new int[STACK_SIZE];
        int night;
        int hue;
        int high;
        int age;
        int lost;
        int near;

        int value(Rules rules, int rule) {
            int top = STACK_FLOOR;
            for (int k = rules.firsts[rule]; k < rules.ends[rule]; k++) {
                if (top < STACK_FLOOR || top + 1 >= STACK_SIZE) {
                    return 0;
                }
                int item = rules.code[k];
                int op = item - OP;
                if (op < 0) {
                    top++;
                    stack[top] = item;
                } else if (op == W_NOT) {
                    stack[top] = 1 - stack[top];
                } else if (op == W_IF) {
                    top -= 2;
                    stack[top] = stack[top] != 0 ? stack[top + 1] : stack[top + 2];
                } else if (op >= W_OR && op != W_ALL) {
                    top--;
                    stack[top] = joined(op, stack[top], stack[top + 1]);
                } else {
                    top++;
                    stack[top] = named(op);
                }
            }
            return stack[Math.max(top, 0)];
        }

        private int named(int word) {
            switch (word) {
                case W_NIGHT:
                    return night;
                case W_HUE:
                    return hue;
                case W_HIGH:
                    return high;
                case W_AGE:
                    return age;
                case W_LOST:
                    return lost;
                case W_NEAR:
                    return near;
                default:
                    return 1;
            }
        }

        private static int joined(int op, int a, int b) {
            switch (op) {
                case '+':
                    return bounded(a + b);
                case '-':
                    return bounded(a - b);
                case '*':
                    return bounded((long) a * b);
                case '/':
                    return b == 0 ? 0 : Math.floorDiv(a, b);
                case '%':
                    return b == 0 ? 0 : Math.floorMod(a, b);
                case '<':
                    return a < b ? 1 : 0;
                case '>':
                    return a > b ? 1 : 0;
                case '=':
                    return a == b ? 1 : 0;
                case W_MIN:
                case W_AND:
                    return Math.min(a, b);
                default:
                    return Math.max(a, b);
            }
        }

        private static int bounded(long result) {
            if (result > RESULT_MOST) {
                return RESULT_MOST;
            }
            return result < -RESULT_MOST ? -RESULT_MOST : (int) result;
        }
    }

    /** What a night does to a state of the quay. */
    private static final class Harbour {
        Quay plan;
        private final Reckoner reckoner = new Reckoner();
        // Behind a road was looked for: the lit cells that are so many steps from its end.
        private final long[] rings = new long[CELLS_MOST];
        int foundThings;
        int lostThings;

        Harbour(Quay plan) {
            this.plan = plan;
        }

        void moveTo(Quay next) {
            plan = next;
        }

        /** Nights go by; the lantern of the thing told as dark lights nothing in them. */
        void pass(State state, int nights, int dark) {
            for (int k = 0; k < nights; k++) {
                long lit = lit(state, dark);
                for (int f = 0; f < plan.folk; f++) {
                    state.places[f] = walked(state.places[f], plan.homes[f], lit);
                }
                settle(state);
            }
        }

        long lit(State state, int dark) {
            long all = 0;
            for (int t = 0; t < plan.things; t++) {
                if (t != dark && state.isMissing(t)) {
                    all |= light(plan.thingPlaces[t], glow(state, t));
                }
            }
            return all;
        }

        /** How far the lantern of a thing that is missing glows. */
        int glow(State state, int thing) {
            if (!plan.rules.isTold(RULE_GLOWS)) {
                return hueOf(state, thing);
            }
            setOut(state, thing);
            return Math.max(0, Math.min(GLOW_MOST, reckoner.value(plan.rules, RULE_GLOWS)));
        }

        long light(int place, int reach) {
            long all = bitOf(place);
            for (int k = 0; k < reach; k++) {
                all |= nextTo(all) & plan.ground;
            }
            return all & ~plan.walls;
        }

        private static long nextTo(long places) {
            return places << 1 | places >>> 1 | places << STRIDE | places >>> STRIDE;
        }

        int countLanterns(State state, long here) {
            int count = 0;
            for (int t = 0; t < plan.things; t++) {
                if (state.isMissing(t) && (light(plan.thingPlaces[t], glow(state, t)) & here) != 0) {
                    count++;
                }
            }
            return count;
        }

        /** The fewest steps into open cells from a place to an end, or NONE. */
        int road(int place, int end, long open) {
            long goal = bitOf(place);
            rings[0] = bitOf(end);
            if (place == end) {
                return 0;
            }
            if ((rings[0] & open) == 0) {
                return NONE;
            }
            // The first place need not be open: nobody steps into it.
            long left = (open | goal) & ~rings[0];
            for (int steps = 1; steps < CELLS_MOST; steps++) {
                long ring = nextTo(rings[steps - 1]) & left;
                if ((ring & goal) != 0) {
                    return steps;
                }
                if (ring == 0) {
                    return NONE;
                }
                rings[steps] = ring;
                left &= ~ring;
            }
            return NONE;
        }

        /** Where one is who goes home from a place, as far as the pace lets him. */
        int walked(int place, int end, long lit) {
            int steps = road(place, end, lit);
            int here = place;
            for (int k = 0; k < plan.pace && steps > 0; k++) {
                steps--;
                here = stepped(here, rings[steps]);
            }
            return here;
        }

        private static int stepped(int place, long nearer) {
            long here = bitOf(place);
            if ((here >>> STRIDE & nearer) != 0) {
                return place - STRIDE;
            }
            if ((here << 1 & nearer) != 0) {
                return place + 1;
            }
            if ((here << STRIDE & nearer) != 0) {
                return place + STRIDE;
            }
            return (here >>> 1 & nearer) != 0 ? place - 1 : place;
        }

        private void settle(State state) {
            foundThings = 0;
            lostThings = 0;
            for (int t = 0; t < plan.things; t++) {
                if (!state.isMissing(t)) {
                    lostThings |= isLost(state, t) ? 1 << t : 0;
                } else if (isFound(state, t)) {
                    foundThings |= 1 << t;
                }
            }
            int turned = foundThings | lostThings;
            for (int t = 0; t < plan.things; t++) {
                state.ages[t] = (turned >> t & 1) != 0 ? 0 : Math.min(AGE_MOST, state.ages[t] + 1);
            }
            state.missing ^= turned;
            state.night = Math.min(NIGHT_MOST, state.night + 1);
        }

        private boolean isFound(State state, int thing) {
            if (!plan.rules.isTold(RULE_FINDS)) {
                return near(state, thing) > 0;
            }
            setOut(state, thing);
            reckoner.near = near(state, thing);
            return reckoner.value(plan.rules, RULE_FINDS) != 0;
        }

        private boolean isLost(State state, int thing) {
            if (!plan.rules.isTold(RULE_LOSES)) {
                return false;
            }
            setOut(state, thing);
            return reckoner.value(plan.rules, RULE_LOSES) != 0;
        }

        private void setOut(State state, int thing) {
            reckoner.night = state.night;
            reckoner.hue = hueOf(state, thing);
            reckoner.high = plan.thingHighs[thing];
            reckoner.age = state.ages[thing];
            reckoner.lost = Integer.bitCount(state.missing);
        }

        private int hueOf(State state, int thing) {
            return thing == state.supposedThing ? state.supposedHue : plan.thingHues[thing];
        }

        private int near(State state, int thing) {
            int count = 0;
            for (int f = 0; f < plan.folk; f++) {
                if (state.places[f] == plan.thingPlaces[thing]) {
                    count++;
                }
            }
            return count;
        }

        boolean isAtHome(State state, int folk) {
            return state.places[folk] == plan.homes[folk];
        }

        int countAtHome(State state) {
            int count = 0;
            for (int f = 0; f < plan.folk; f++) {
                if (isAtHome(state, f)) {
                    count++;
                }
            }
            return count;
        }
    }

    /** What would come of a state: it works on states of its own. */
    private static final class Planner {
        // One more of the folk sent outweighs all steps that can be.
        private static final int SENT_WORTH = 1000;

        private final Harbour harbour;
        private final State[] trials = new State[HUE_MOST];
        private final long[] lights = new long[THINGS_MOST];
        private final int[] steps = new int[FOLK_MOST * THINGS_MOST];
        // For one of the folk and a set of things gone: the most that he and those behind him are worth.
        private final int[] worths = new int[(FOLK_MOST + 1) * SETS_MOST];
        final int[] sentThings = new int[FOLK_MOST];
        int sentCount;
        int sentSteps;
        private final int[] met = new int[MET_ROWS_MOST * MET_ROW];
        int metCount;
        int tellingNights;
        int tellingFolk;
        int tellingLeft;

        Planner(Harbour harbour) {
            this.harbour = harbour;
            for (int k = 0; k < HUE_MOST; k++) {
                trials[k] = new State();
            }
        }

        /** How all is behind nights ahead; good until the next question. */
        State behind(State now, int nights) {
            State trial = trials[0];
            trial.copyFrom(now);
            harbour.pass(trial, nights, NONE);
            return trial;
        }

        int nightsTillHome(State now, int folk) {
            State trial = trials[0];
            trial.copyFrom(now);
            int most = Math.min(AHEAD_MOST, NIGHT_MOST - now.night);
            for (int k = 0; k < most && !harbour.isAtHome(trial, folk); k++) {
                harbour.pass(trial, 1, NONE);
            }
            if (!harbour.isAtHome(trial, folk)) {
                return NONE;
            }
            return trial.night - now.night;
        }

        int leastLosses(State now, int folk, int nights) {
            State trial = trials[0];
            int free = (1 << harbour.plan.things) - 1 & ~now.missing;
            int freeCount = Integer.bitCount(free);
            for (int count = 0; count <= freeCount; count++) {
                for (int set = 0; set <= free; set++) {
                    if ((set & ~free) == 0 && Integer.bitCount(set) == count) {
                        trial.copyFrom(now);
                        turnAll(trial, set);
                        harbour.pass(trial, nights, NONE);
                        if (harbour.isAtHome(trial, folk)) {
                            return set;
                        }
                    }
                }
            }
            return NONE;
        }

        private static void turnAll(State state, int set) {
            for (int t = 0; t < THINGS_MOST; t++) {
                if ((set >> t & 1) != 0) {
                    state.turn(t);
                }
            }
        }

        /** The thing that should least be found, or else how many of the folk are at home then. */
        int worstFound(State now, int nights, boolean asksThing) {
            State trial = trials[0];
            int thing = NONE;
            int fewest = NONE;
            for (int t = 0; t < harbour.plan.things; t++) {
                if (now.isMissing(t)) {
                    trial.copyFrom(now);
                    trial.turn(t);
                    harbour.pass(trial, nights, NONE);
                    int count = harbour.countAtHome(trial);
                    if (thing == NONE || count < fewest) {
                        thing = t;
                        fewest = count;
                    }
                }
            }
            return asksThing ? thing : fewest;
        }

        int leastCover(State now) {
            long all = 0;
            for (int t = 0; t < harbour.plan.things; t++) {
                lights[t] = now.isMissing(t) ? harbour.light(harbour.plan.thingPlaces[t], harbour.glow(now, t)) : 0;
                all |= lights[t];
            }
            int least = now.missing;
            int count = Integer.bitCount(least);
            for (int set = 0; set <= now.missing; set++) {
                if ((set & ~now.missing) == 0 && Integer.bitCount(set) < count && lightOf(set) == all) {
                    least = set;
                    count = Integer.bitCount(set);
                }
            }
            return least;
        }

        private long lightOf(int set) {
            long all = 0;
            for (int t = 0; t < THINGS_MOST; t++) {
                if ((set >> t & 1) != 0) {
                    all |= lights[t];
                }
            }
            return all;
        }

        /** Whom to send to which thing: sets sentThings, sentCount, sentSteps. */
        void arrange(State now) {
            measure(now);
            weigh(now.missing);
            sentCount = 0;
            sentSteps = 0;
            int gone = 0;
            for (int f = 0; f < harbour.plan.folk; f++) {
                int t = firstBest(f, gone);
                sentThings[f] = t;
                if (t != NONE) {
                    sentCount++;
                    sentSteps += steps[f * THINGS_MOST + t];
                    gone |= 1 << t;
                }
            }
        }

        private void measure(State now) {
            long open = harbour.plan.ground & ~harbour.plan.walls;
            for (int f = 0; f < harbour.plan.folk; f++) {
                for (int t = 0; t < harbour.plan.things; t++) {
                    steps[f * THINGS_MOST + t] = now.isMissing(t)
                            ? harbour.road(now.places[f], harbour.plan.thingPlaces[t], open) : NONE;
                }
            }
        }

        private void weigh(int missing) {
            int folk = harbour.plan.folk;
            for (int set = 0; set < SETS_MOST; set++) {
                worths[folk * SETS_MOST + set] = 0;
            }
            for (int f = folk - 1; f >= 0; f--) {
                for (int set = 0; set <= missing; set++) {
                    // Those ahead of him can have taken no more things than they are.
                    if ((set & ~missing) == 0 && Integer.bitCount(set) <= f) {
                        worths[f * SETS_MOST + set] = worthWith(f, set, NONE);
                        for (int t = 0; t < harbour.plan.things; t++) {
                            worths[f * SETS_MOST + set] = Math.max(worths[f * SETS_MOST + set], worthWith(f, set, t));
                        }
                    }
                }
            }
        }

        /** What one of the folk and those behind him are worth, if he is sent to a thing (NONE: to none). */
        private int worthWith(int folk, int gone, int thing) {
            int behind = (folk + 1) * SETS_MOST;
            if (thing == NONE) {
                return worths[behind + gone];
            }
            int way = steps[folk * THINGS_MOST + thing];
            if (way == NONE || (gone >> thing & 1) != 0) {
                return NONE;
            }
            return SENT_WORTH - way + worths[behind + (gone | 1 << thing)];
        }

        private int firstBest(int folk, int gone) {
            int best = worths[folk * SETS_MOST + gone];
            for (int t = NONE; t < harbour.plan.things; t++) {
                if (worthWith(folk, gone, t) == best) {
                    return t;
                }
            }
            return NONE;
        }

        int rowsToHome(State now, int folk) {
            int place = now.places[folk];
            int end = harbour.plan.homes[folk];
            int still = harbour.walked(place, end, harbour.lit(now, NONE)) == end ? harbour.plan.things : 0;
            int blown = 0;
            for (int t = 0; t < harbour.plan.things; t++) {
                if (harbour.walked(place, end, harbour.lit(now, t)) == end) {
                    blown++;
                }
            }
            return (GALE_SCALE - harbour.plan.gale) * still + harbour.plan.gale * blown;
        }

        void forgetMet() {
            metCount = 0;
        }

        boolean takesMet(int[] tape, int length) {
            if (length < MET_ROW || length > met.length || length % MET_ROW != 0) {
                return false;
            }
            for (int k = 0; k < length; k += MET_ROW) {
                if (tape[k] > MET_NIGHTS_MOST || tape[k + 1] >= harbour.plan.folk
                        || !harbour.plan.hasCell(tape[k + 2], tape[k + 3])) {
                    return false;
                }
            }
            System.arraycopy(tape, 0, met, 0, length);
            metCount = length / MET_ROW;
            return true;
        }

        int huesLeft(State now, int thing) {
            int last = lastMetNight();
            if (now.night + last > NIGHT_MOST) {
                return 0;
            }
            State trial = trials[0];
            int left = 0;
            for (int hue = 1; hue <= HUE_MOST; hue++) {
                trial.copyFrom(now);
                trial.supposedThing = thing;
                trial.supposedHue = hue;
                boolean fits = fitsMet(trial, 0);
                for (int n = 1; n <= last && fits; n++) {
                    harbour.pass(trial, 1, NONE);
                    fits = fitsMet(trial, n);
                }
                left |= fits ? 1 << hue - 1 : 0;
            }
            return left;
        }

        private int lastMetNight() {
            int last = 0;
            for (int k = 0; k < metCount; k++) {
                last = Math.max(last, met[k * MET_ROW]);
            }
            return last;
        }

        private boolean fitsMet(State state, int nights) {
            for (int k = 0; k < metCount; k++) {
                int row = k * MET_ROW;
                if (met[row] == nights && state.places[met[row + 1]] != placeOf(met[row + 2], met[row + 3])) {
                    return false;
                }
            }
            return true;
        }

        /** What tells most of the hues left (as bits): sets tellingNights, tellingFolk, tellingLeft. */
        void findTelling(State now, int thing, int left) {
            tellingNights = NONE;
            tellingFolk = NONE;
            tellingLeft = NONE;
            int count = supposeAll(now, thing, left);
            int most = Math.min(MET_NIGHTS_MOST, NIGHT_MOST - now.night);
            for (int n = 1; n <= most && count > 0; n++) {
                for (int k = 0; k < count; k++) {
                    harbour.pass(trials[k], 1, NONE);
                }
                for (int f = 0; f < harbour.plan.folk; f++) {
                    int alike = mostAlike(f, count);
                    if (tellingLeft == NONE || alike < tellingLeft) {
                        tellingNights = n;
                        tellingFolk = f;
                        tellingLeft = alike;
                    }
                }
            }
        }

        private int supposeAll(State now, int thing, int left) {
            int count = 0;
            for (int hue = 1; hue <= HUE_MOST; hue++) {
                if ((left >> hue - 1 & 1) != 0) {
                    trials[count].copyFrom(now);
                    trials[count].supposedThing = thing;
                    trials[count].supposedHue = hue;
                    count++;
                }
            }
            return count;
        }

        /** In how many of the first trials, at the most, one of the folk is in the same cell. */
        private int mostAlike(int folk, int count) {
            int most = 0;
            for (int i = 0; i < count; i++) {
                int alike = 0;
                for (int k = 0; k < count; k++) {
                    if (trials[k].places[folk] == trials[i].places[folk]) {
                        alike++;
                    }
                }
                most = Math.max(most, alike);
            }
            return most;
        }
    }
}
