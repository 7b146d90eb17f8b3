/** A sinking tower of floors, the records that stand in it, and what is asked about them. */
public final class SinkingArchive {
    public static final int UNKNOWN = -1, BAD = -2, LATE = -3, FULL = -4, NONE = -9;

    private static final int MOST_FLOORS = 5;
    private static final int MOST_RECORDS = 8;
    private static final int MOST_BYTES = 76;
    private static final int MOST_ACTS = 10;
    private static final int MOST_EFFORT = 99;
    private static final int MOST_MINUTES = 99;
    private static final int MOST_DECADES_AHEAD = 9;
    private static final int MOST_DECADES_PLANNED = 3;
    private static final int MOST_RECORDS_PLANNED = 4;
    private static final int MOST_RECORDS_AT_HAND = 6;
    private static final int FIRST_EFFORT = 9;
    private static final int TENTHS = 10;

    private static final int PLAIN = 0;
    private static final int SKIN = 1;
    private static final int FORGED = 2;
    private static final int JOINED = 3;

    private final int[] text = new int[MOST_BYTES];
    private int length;
    private final Reader reader = new Reader();
    private Tower raised = new Tower();
    private final Standing now = new Standing();
    private final int[] says = new int[MOST_RECORDS];
    private final Acts acts = new Acts();
    private final Slot lowSlot = new Slot();
    private final Slot highSlot = new Slot();
    private final Units units = new Units();
    private final Planner planner = new Planner();
    private final Arranger arranger = new Arranger();
    private final Diver diver = new Diver();

    public SinkingArchive() {
        raised.floors = 2;
    }

    // ---- the tower

    public int write(int n, long v) {
        if (n < 1 || n > 8) {
            return BAD;
        }
        if (length + n > MOST_BYTES) {
            return FULL;
        }
        for (int i = n - 1; i >= 0; i--) {
            text[length] = (int) ((v >>> (8 * i)) & 255L);
            length++;
        }
        return length;
    }

    public int wipe() {
        int was = length;
        length = 0;
        return was;
    }

    public int fault() {
        return reader.firstFault(text, length);
    }

    public int tower() {
        if (reader.firstFault(text, length) != NONE) {
            return LATE;
        }
        // The reader gets the old tower to write its next one into, so that none is made anew.
        Tower old = raised;
        raised = reader.told;
        reader.told = old;
        now.begin(raised);
        for (int r = 0; r < raised.records; r++) {
            says[r] = raised.place[r];
        }
        acts.count = 0;
        lowSlot.used = false;
        highSlot.used = false;
        return raised.records;
    }

    public int about(int what) {
        switch (what) {
            case 0: return raised.floors;
            case 1: return raised.records;
            case 2: return Integer.bitCount(now.drowned);
            case 3: return now.water;
            case 4: return now.effort;
            case 5: return now.left;
            case 6: return acts.count;
            case 7: return now.keptWorth(raised.records);
            case 8: return now.stepsAsked(raised);
            case 9: return length;
            default: return BAD;
        }
    }

    public int floor(int floor, int what) {
        if (!isFloor(floor)) {
            return UNKNOWN;
        }
        switch (what) {
            case 0: return raised.bears[floor];
            case 1: return raised.weightOf(now.standingOn(floor, raised.records));
            case 2: return now.standingOn(floor, raised.records);
            default: return BAD;
        }
    }

    public int record(int record, int what) {
        if (!isRecord(record)) {
            return UNKNOWN;
        }
        switch (what) {
            case 0: return raised.weight[record];
            case 1: return now.worth[record];
            case 2: return raised.asked[record];
            case 3: return now.kind[record];
            case 4: return now.place[record];
            case 5: return now.isThere(record) ? 0 : 1;
            case 6: return says[record];
            default: return BAD;
        }
    }

    public int cites(int record, int other) {
        if (!isRecord(record) || !isRecord(other)) {
            return UNKNOWN;
        }
        return raised.citing(record, other) ? 1 : 0;
    }

    public int effort(int e) {
        if (e < 0 || e > MOST_EFFORT) {
            return BAD;
        }
        int was = now.effort;
        now.effort = e;
        now.left = Math.max(0, now.left + e - was);
        return was;
    }

    // ---- acts

    public int carry(int record, int floor) {
        if (!isRecord(record) || !isFloor(floor)) {
            return UNKNOWN;
        }
        if (!now.isThere(record) || floor <= now.place[record]) {
            return LATE;
        }
        int group = now.hangingTogether(record, raised.records);
        int weight = raised.weightOf(group);
        int takes = (floor - now.place[record]) * weight;
        if (takes > now.left || !bearsMore(floor, weight)) {
            return LATE;
        }
        acts.remember(now);
        now.raise(group, floor);
        now.left -= takes;
        return takes;
    }

    public int together(int record) {
        if (!isRecord(record)) {
            return UNKNOWN;
        }
        if (!now.isThere(record)) {
            return LATE;
        }
        return now.hangingTogether(record, raised.records);
    }

    public int decade() {
        if (now.water >= raised.floors) {
            return LATE;
        }
        acts.remember(now);
        return now.sink(raised.records);
    }

    public int anew(int record, int floor) {
        if (!isRecord(record) || !isFloor(floor)) {
            return UNKNOWN;
        }
        int citing = citingThere(record);
        if (now.isThere(record) || citing < 2) {
            return LATE;
        }
        if (floor < now.water || !bearsMore(floor, raised.weight[record])) {
            return LATE;
        }
        acts.remember(now);
        now.writeAgain(record, floor, raised.records);
        return citing;
    }

    public int undo() {
        if (acts.count <= 0) {
            return LATE;
        }
        acts.takeBack(now);
        return acts.count;
    }

    // ---- plans

    public int most(int d) {
        int refusal = planRefusal(d);
        if (refusal < 0) {
            return refusal;
        }
        makePlan(d);
        return planner.most;
    }

    public int least(int d) {
        int refusal = planRefusal(d);
        if (refusal < 0) {
            return refusal;
        }
        makePlan(d);
        return planner.least;
    }

    public int planAt(int d, int record) {
        if (!isRecord(record)) {
            return UNKNOWN;
        }
        int refusal = planRefusal(d);
        if (refusal < 0) {
            return refusal;
        }
        makePlan(d);
        int unit = units.holding(record);
        if (unit < 0 || unit >= MOST_RECORDS_PLANNED) {
            return now.place[record];
        }
        return planner.first[unit];
    }

    // ---- asked, index

    public int atHand() {
        if (thereCount() > MOST_RECORDS_AT_HAND) {
            return LATE;
        }
        units.gather(raised, now);
        return arranger.fewestSteps(raised, now.water, units);
    }

    public int index(int record, int floor) {
        if (!isRecord(record) || !isFloor(floor)) {
            return UNKNOWN;
        }
        int was = says[record];
        says[record] = floor;
        return was;
    }

    public int lookUp(int record) {
        if (!isRecord(record)) {
            return UNKNOWN;
        }
        if (!now.isThere(record)) {
            return LATE;
        }
        return floorsSearched(says[record], now.place[record]);
    }

    public int lies(boolean upper) {
        int wrong = 0;
        for (int r = 0; r < raised.records; r++) {
            if (liesAbout(r)) {
                wrong++;
            }
        }
        return (int) leastTerms(wrong, thereCount(), upper);
    }

    public int mend() {
        int wrong = 0;
        for (int r = 0; r < raised.records; r++) {
            if (liesAbout(r)) {
                says[r] = now.place[r];
                wrong++;
            }
        }
        return wrong;
    }

    // ---- diver, floods

    public int dive(int m, int what) {
        if (m < 0 || m > MOST_MINUTES || what < 0 || what > 2) {
            return BAD;
        }
        diver.search(raised, now, m);
        if (what == 0) {
            return diver.worth;
        }
        return what == 1 ? diver.minutes : diver.set;
    }

    public long dry(int record, int d, int x, boolean upper) {
        if (!isRecord(record)) {
            return UNKNOWN;
        }
        if (d < 1 || d > MOST_DECADES_AHEAD || x < 0 || x > TENTHS) {
            return BAD;
        }
        if (!now.isThere(record)) {
            return LATE;
        }
        int spare = now.place[record] - now.water - d;
        return leastTerms(waysOfFewFloods(spare, d, x), power(TENTHS, d), upper);
    }

    // ---- slots

    public int keep(int slot) {
        if (slot < 0 || slot > 1) {
            return UNKNOWN;
        }
        Slot into = slot == 0 ? lowSlot : highSlot;
        into.used = true;
        into.standing.copy(now);
        System.arraycopy(says, 0, into.says, 0, MOST_RECORDS);
        return now.water;
    }

    public int again(int slot) {
        if (slot < 0 || slot > 1) {
            return UNKNOWN;
        }
        Slot from = slot == 0 ? lowSlot : highSlot;
        if (!from.used) {
            return LATE;
        }
        now.copy(from.standing);
        System.arraycopy(from.says, 0, says, 0, MOST_RECORDS);
        acts.count = 0;
        return now.water;
    }

    // ---- what the calls share

    private boolean isFloor(int floor) {
        return floor >= 0 && floor < raised.floors;
    }

    private boolean isRecord(int record) {
        return record >= 0 && record < raised.records;
    }

    private int thereCount() {
        return raised.records - Integer.bitCount(now.drowned);
    }

    private boolean bearsMore(int floor, int weight) {
        int load = raised.weightOf(now.standingOn(floor, raised.records));
        return load + weight <= raised.bears[floor];
    }

    private int citingThere(int record) {
        int citing = 0;
        for (int r = 0; r < raised.records; r++) {
            if (now.isThere(r) && raised.citing(r, record)) {
                citing++;
            }
        }
        return citing;
    }

    private boolean liesAbout(int record) {
        return now.isThere(record) && says[record] != now.place[record];
    }

    private int planRefusal(int d) {
        if (d < 1 || d > MOST_DECADES_PLANNED) {
            return BAD;
        }
        return thereCount() > MOST_RECORDS_PLANNED ? LATE : 0;
    }

    private void makePlan(int d) {
        units.gather(raised, now);
        planner.plan(raised, now, units, d);
    }

    private int floorsSearched(int said, int place) {
        int looked = 0;
        if (said >= now.water) {
            looked = 1;
            if (said == place) {
                return looked;
            }
        }
        for (int floor = now.water; floor <= place; floor++) {
            if (floor != said) {
                looked++;
            }
        }
        return looked;
    }

    /** Of all the 10 to the power of d ways that d decades can go, those with no more than so many double floods. */
    private static long waysOfFewFloods(int floods, int d, int x) {
        long sum = 0;
        long orders = 1;
        for (int k = 0; k <= floods && k <= d; k++) {
            sum += orders * power(x, k) * power(TENTHS - x, d - k);
            orders = orders * (d - k) / (k + 1);
        }
        return sum;
    }

    private static long power(int base, int exponent) {
        long product = 1;
        for (int i = 0; i < exponent; i++) {
            product *= base;
        }
        return product;
    }

    private static long leastTerms(long above, long below, boolean upper) {
        if (above == 0 || below == 0) {
            return upper ? 0 : 1;
        }
        long common = commonDivisor(above, below);
        if (common == 0) {
            return 0;
        }
        return (upper ? above : below) / common;
    }

    private static long commonDivisor(long a, long b) {
        long larger = a;
        long smaller = b;
        // Euclid's way halves the numbers every second turn, so no long needs more turns than this.
        for (int turn = 0; turn < 128 && smaller != 0; turn++) {
            long rest = larger % smaller;
            larger = smaller;
            smaller = rest;
        }
        return larger;
    }

    private static boolean holds(int set, int member) {
        return (set >> member & 1) != 0;
    }

    /** What a text tells and no act changes, and where the records are at first. */
    static final class Tower {
        int floors;
        final int[] bears = new int[MOST_FLOORS];
        int records;
        final int[] weight = new int[MOST_RECORDS];
        final int[] worth = new int[MOST_RECORDS];
        final int[] asked = new int[MOST_RECORDS];
        final int[] kind = new int[MOST_RECORDS];
        final int[] place = new int[MOST_RECORDS];
        final int[] cited = new int[MOST_RECORDS];

        boolean citing(int record, int other) {
            return holds(cited[record], other);
        }

        int weightOf(int set) {
            int sum = 0;
            for (int r = 0; r < records; r++) {
                if (holds(set, r)) {
                    sum += weight[r];
                }
            }
            return sum;
        }
    }

    /** Takes a text byte by byte and refuses the first by which it can be no tower. */
    static final class Reader {
        private static final int AT_START = 0, AT_FLOORS = 1, AT_TENS = 2, AT_ONES = 3, AT_PART = 4;
        private static final int AT_WEIGHT = 5, AT_WORTH = 6, AT_ASKED = 7, AT_KIND = 8, AT_PLACE = 9;
        private static final int AT_CITING = 10, AT_CITED = 11;

        Tower told = new Tower();
        private int stage;
        private int floor;
        private int tens;
        private final int[] room = new int[MOST_FLOORS];
        private int weight;
        private int worth;
        private int asked;
        private int kind;
        private int citing;

        int firstFault(int[] text, int length) {
            stage = AT_START;
            told.floors = 0;
            told.records = 0;
            for (int at = 0; at < length && at < text.length; at++) {
                if (!takes(text[at])) {
                    return at;
                }
            }
            return stage == AT_PART ? NONE : length;
        }

        private boolean takes(int sign) {
            if (stage == AT_START) {
                stage = AT_FLOORS;
                return sign == 'T';
            }
            if (stage == AT_PART) {
                return takesPart(sign);
            }
            int figure = sign - '0';
            return figure >= 0 && figure <= 9 && takesFigure(figure);
        }

        private boolean takesPart(int sign) {
            if (sign == 'R') {
                stage = AT_WEIGHT;
                return told.records < MOST_RECORDS && hasRoom(1);
            }
            stage = AT_CITING;
            return sign == 'Q' && someoneCanCite();
        }

        private boolean takesFigure(int figure) {
            switch (stage) {
                case AT_FLOORS: return takesFloors(figure);
                case AT_TENS: return takesTens(figure);
                case AT_ONES: return takesOnes(figure);
                case AT_WEIGHT: return takesWeight(figure);
                case AT_WORTH: return takesWorth(figure);
                case AT_ASKED: return takesAsked(figure);
                case AT_KIND: return takesKind(figure);
                case AT_PLACE: return takesPlace(figure);
                case AT_CITING: return takesCiting(figure);
                case AT_CITED: return takesCited(figure);
                default: return false;
            }
        }

        private boolean takesFloors(int figure) {
            if (figure < 2 || figure > MOST_FLOORS) {
                return false;
            }
            told.floors = figure;
            floor = 0;
            stage = AT_TENS;
            return true;
        }

        private boolean takesTens(int figure) {
            tens = figure;
            stage = AT_ONES;
            return true;
        }

        private boolean takesOnes(int figure) {
            if (floor < 0 || floor >= MOST_FLOORS) {
                return false;
            }
            told.bears[floor] = 10 * tens + figure;
            room[floor] = told.bears[floor];
            floor++;
            stage = floor < told.floors ? AT_TENS : AT_PART;
            return true;
        }

        private boolean takesWeight(int figure) {
            weight = figure;
            stage = AT_WORTH;
            return figure >= 1 && hasRoom(figure);
        }

        private boolean takesWorth(int figure) {
            worth = figure;
            stage = AT_ASKED;
            return true;
        }

        private boolean takesAsked(int figure) {
            asked = figure;
            stage = AT_KIND;
            return true;
        }

        private boolean takesKind(int figure) {
            kind = figure;
            stage = AT_PLACE;
            // A joined record has but one floor to go to, so that floor's room counts here already.
            return figure < JOINED || figure == JOINED && bearsIt(placeAhead());
        }

        private boolean takesPlace(int figure) {
            if (!bearsIt(figure) || kind == JOINED && figure != placeAhead()) {
                return false;
            }
            int r = told.records;
            if (r >= MOST_RECORDS) {
                return false;
            }
            told.weight[r] = weight;
            told.worth[r] = worth;
            told.asked[r] = asked;
            told.kind[r] = kind;
            told.place[r] = figure;
            told.cited[r] = 0;
            told.records = r + 1;
            room[figure] -= weight;
            stage = AT_PART;
            return true;
        }

        private boolean takesCiting(int figure) {
            citing = figure;
            stage = AT_CITED;
            return canCite(figure);
        }

        private boolean takesCited(int figure) {
            if (!canCite(citing) || !holds(citableBy(citing), figure)) {
                return false;
            }
            told.cited[citing] |= 1 << figure;
            stage = AT_PART;
            return true;
        }

        private boolean hasRoom(int load) {
            for (int g = 0; g < told.floors; g++) {
                if (room[g] >= load) {
                    return true;
                }
            }
            return false;
        }

        /** The floor of the record told last, -1 if none is told. */
        private int placeAhead() {
            return told.records > 0 ? told.place[told.records - 1] : -1;
        }

        private boolean bearsIt(int place) {
            return place >= 0 && place < told.floors && room[place] >= weight;
        }

        private boolean someoneCanCite() {
            for (int r = 0; r < told.records; r++) {
                if (canCite(r)) {
                    return true;
                }
            }
            return false;
        }

        private boolean canCite(int record) {
            return record >= 0 && record < told.records && citableBy(record) != 0;
        }

        private int citableBy(int record) {
            int others = (1 << told.records) - 1 & ~(1 << record);
            return others & ~told.cited[record];
        }
    }

    /** All that acts change: what an undone act brings back. */
    static final class Standing {
        final int[] place = new int[MOST_RECORDS];
        final int[] worth = new int[MOST_RECORDS];
        final int[] kind = new int[MOST_RECORDS];
        int drowned;
        int water;
        int effort = FIRST_EFFORT;
        int left = FIRST_EFFORT;

        void begin(Tower tower) {
            copyRecords(tower.place, tower.worth, tower.kind);
            drowned = 0;
            water = 0;
            effort = FIRST_EFFORT;
            left = FIRST_EFFORT;
        }

        void copy(Standing from) {
            copyRecords(from.place, from.worth, from.kind);
            drowned = from.drowned;
            water = from.water;
            effort = from.effort;
            left = from.left;
        }

        private void copyRecords(int[] places, int[] worths, int[] kinds) {
            System.arraycopy(places, 0, place, 0, MOST_RECORDS);
            System.arraycopy(worths, 0, worth, 0, MOST_RECORDS);
            System.arraycopy(kinds, 0, kind, 0, MOST_RECORDS);
        }

        boolean isThere(int record) {
            return !holds(drowned, record);
        }

        /** Drowned records lie on their floor, but do not stand on it. */
        int standingOn(int floor, int records) {
            int set = 0;
            for (int r = 0; r < records; r++) {
                if (isThere(r) && place[r] == floor) {
                    set |= 1 << r;
                }
            }
            return set;
        }

        int keptWorth(int records) {
            int sum = 0;
            for (int r = 0; r < records; r++) {
                if (isThere(r) && kind[r] != FORGED) {
                    sum += worth[r];
                }
            }
            return sum;
        }

        int stepsAsked(Tower tower) {
            int sum = 0;
            for (int r = 0; r < tower.records; r++) {
                if (isThere(r)) {
                    sum += tower.asked[r] * (place[r] - water);
                }
            }
            return sum;
        }

        /** The records that go where this one goes; it is there. */
        int hangingTogether(int record, int records) {
            int set = 1 << record;
            for (int r = record; r > 0 && isJoined(r); r--) {
                set |= 1 << (r - 1);
            }
            for (int r = record + 1; r < records && isJoined(r); r++) {
                set |= 1 << r;
            }
            return set;
        }

        /** Whether a record (not the first) and the one ahead of it are there and joined. */
        private boolean isJoined(int record) {
            return kind[record] == JOINED && isThere(record) && isThere(record - 1);
        }

        void raise(int set, int floor) {
            for (int r = 0; r < MOST_RECORDS; r++) {
                if (holds(set, r)) {
                    place[r] = floor;
                }
            }
        }

        int sink(int records) {
            int drowning = standingOn(water, records);
            drowned |= drowning;
            water++;
            for (int r = 0; r < records; r++) {
                if (isThere(r) && place[r] == water && kind[r] != SKIN && worth[r] > 0) {
                    worth[r]--;
                }
            }
            left = effort;
            return drowning;
        }

        void writeAgain(int record, int floor, int records) {
            drowned &= ~(1 << record);
            place[record] = floor;
            kind[record] = SKIN;
            int behind = record + 1;
            if (behind < records && kind[behind] == JOINED) {
                kind[behind] = PLAIN;
            }
        }
    }

    /** How all stood ahead of each of the last acts. */
    static final class Acts {
        private final Standing[] row = new Standing[MOST_ACTS];
        int count;

        Acts() {
            for (int i = 0; i < MOST_ACTS; i++) {
                row[i] = new Standing();
            }
        }

        void remember(Standing now) {
            if (count >= MOST_ACTS) {
                forgetFirst();
            }
            row[count].copy(now);
            count++;
        }

        private void forgetFirst() {
            Standing first = row[0];
            for (int i = 1; i < MOST_ACTS; i++) {
                row[i - 1] = row[i];
            }
            row[MOST_ACTS - 1] = first;
            count = MOST_ACTS - 1;
        }

        void takeBack(Standing now) {
            if (count > 0) {
                count--;
                now.copy(row[count]);
            }
        }
    }

    static final class Slot {
        boolean used;
        final Standing standing = new Standing();
        final int[] says = new int[MOST_RECORDS];
    }

    /** What is there, by what moves as one; in the order of each unit's least record. */
    static final class Units {
        int count;
        final int[] set = new int[MOST_RECORDS];
        final int[] weight = new int[MOST_RECORDS];
        final int[] asked = new int[MOST_RECORDS];
        final int[] place = new int[MOST_RECORDS];

        void gather(Tower tower, Standing now) {
            count = 0;
            int seen = now.drowned;
            for (int r = 0; r < tower.records && count < MOST_RECORDS; r++) {
                if (!holds(seen, r)) {
                    set[count] = now.hangingTogether(r, tower.records);
                    weight[count] = tower.weightOf(set[count]);
                    asked[count] = askedFor(tower, set[count]);
                    place[count] = now.place[r];
                    seen |= set[count];
                    count++;
                }
            }
        }

        private static int askedFor(Tower tower, int set) {
            int sum = 0;
            for (int r = 0; r < tower.records; r++) {
                if (holds(set, r)) {
                    sum += tower.asked[r];
                }
            }
            return sum;
        }

        /** The unit of a record, -1 if it is in none. */
        int holding(int record) {
            for (int u = 0; u < count; u++) {
                if (holds(set[u], record)) {
                    return u;
                }
            }
            return -1;
        }
    }

    /** Goes through all plans, in the order of the records' floors, and keeps the first of the best. */
    static final class Planner {
        private static final int MOST_TURNS = MOST_RECORDS_PLANNED * MOST_DECADES_PLANNED;

        int most;
        int least;
        final int[] first = new int[MOST_RECORDS_PLANNED];
        private Units units;
        private int floors;
        private int water;
        /** A turn is one unit's choice of floor in one decade; all turns of a decade come in a row. */
        private int turns;
        private final int[] bears = new int[MOST_FLOORS];
        private final int[] left = new int[MOST_DECADES_PLANNED];
        private final int[][] load = new int[MOST_DECADES_PLANNED][MOST_FLOORS];
        private final int[][] worth = new int[MOST_RECORDS_PLANNED][MOST_DECADES_PLANNED + 1];
        private final int[] stands = new int[MOST_TURNS];
        private final int[] damp = new int[MOST_TURNS];

        void plan(Tower tower, Standing now, Units moving, int decades) {
            most = -1;
            least = 0;
            if (moving.count > MOST_RECORDS_PLANNED || decades > MOST_DECADES_PLANNED) {
                return;
            }
            units = moving;
            floors = tower.floors;
            water = now.water;
            turns = decades * moving.count;
            System.arraycopy(tower.bears, 0, bears, 0, MOST_FLOORS);
            for (int d = 0; d < decades; d++) {
                left[d] = d == 0 ? now.left : now.effort;
            }
            int hope = 0;
            for (int u = 0; u < moving.count; u++) {
                for (int times = 0; times <= MOST_DECADES_PLANNED; times++) {
                    worth[u][times] = worthWhenDamp(tower, now, moving.set[u], times);
                }
                hope += worth[u][0];
            }
            choose(this, 0, hope, 0);
        }

        private static int worthWhenDamp(Tower tower, Standing now, int set, int times) {
            int sum = 0;
            for (int r = 0; r < tower.records; r++) {
                if (holds(set, r) && now.kind[r] != FORGED) {
                    int lost = now.kind[r] == SKIN ? 0 : times;
                    sum += Math.max(0, now.worth[r] - lost);
                }
            }
            return sum;
        }

        /** hope: what would be kept if nothing more were lost from here on, so no plan from here keeps more. */
        private static void choose(Planner p, int turn, int hope, int spent) {
            if (hope < p.most || hope == p.most && spent >= p.least) {
                return;
            }
            int count = p.units.count;
            if (turn >= p.turns || turn >= MOST_TURNS || count <= 0) {
                p.note(hope, spent);
                return;
            }
            int decade = turn / count;
            int unit = turn % count;
            int from = turn < count ? p.units.place[unit] : p.stands[turn - count];
            int damp = turn < count ? 0 : p.damp[turn - count];
            int wet = p.water + decade;
            if (from < wet) {
                p.stands[turn] = from;
                choose(p, turn + 1, hope, spent);
                return;
            }
            int weight = p.units.weight[unit];
            for (int to = from; to < p.floors; to++) {
                int takes = (to - from) * weight;
                if (takes <= p.left[decade] && p.load[decade][to] + weight <= p.bears[to]) {
                    p.stands[turn] = to;
                    p.damp[turn] = to == wet + 1 ? damp + 1 : damp;
                    int after = to == wet ? 0 : p.worth[unit][p.damp[turn]];
                    p.left[decade] -= takes;
                    p.load[decade][to] += weight;
                    choose(p, turn + 1, hope - p.worth[unit][damp] + after, spent + takes);
                    p.left[decade] += takes;
                    p.load[decade][to] -= weight;
                }
            }
        }

        private void note(int kept, int spent) {
            most = kept;
            least = spent;
            for (int u = 0; u < units.count; u++) {
                first[u] = stands[u];
            }
        }
    }

    /** Tries all ways in which what is there could stand above the water. */
    static final class Arranger {
        private static final int ABOVE_ALL_STEPS = 1000000;

        private Units units;
        private Tower tower;
        private int water;
        private int fewest;
        private final int[] load = new int[MOST_FLOORS];

        int fewestSteps(Tower standingIn, int underWater, Units standing) {
            units = standing;
            tower = standingIn;
            water = underWater;
            fewest = ABOVE_ALL_STEPS;
            place(this, 0, 0);
            return fewest;
        }

        private static void place(Arranger a, int unit, int steps) {
            if (steps >= a.fewest) {
                return;
            }
            if (unit >= a.units.count || unit >= MOST_RECORDS) {
                a.fewest = steps;
                return;
            }
            int weight = a.units.weight[unit];
            for (int to = a.water; to < a.tower.floors; to++) {
                if (a.load[to] + weight <= a.tower.bears[to]) {
                    a.load[to] += weight;
                    place(a, unit + 1, steps + a.units.asked[unit] * (to - a.water));
                    a.load[to] -= weight;
                }
            }
        }
    }

    /** Weighs all sets of drowned records against each other, the least set first. */
    static final class Diver {
        int worth;
        int minutes;
        int set;

        void search(Tower tower, Standing now, int limit) {
            worth = 0;
            minutes = 0;
            set = 0;
            for (int some = 1; some < 1 << tower.records; some++) {
                if ((some & ~now.drowned) == 0) {
                    weigh(tower, now, some, limit);
                }
            }
        }

        private void weigh(Tower tower, Standing now, int some, int limit) {
            int takes = 0;
            int brings = 0;
            for (int r = 0; r < tower.records; r++) {
                if (holds(some, r)) {
                    int depth = now.water - now.place[r];
                    takes += 2 * depth + tower.weight[r];
                    brings += wholeTenths(now.kind[r], depth) * (now.kind[r] == FORGED ? 0 : now.worth[r]);
                }
            }
            boolean better = brings > worth || brings == worth && takes < minutes;
            if (takes <= limit && better) {
                worth = brings;
                minutes = takes;
                set = some;
            }
        }

        private static int wholeTenths(int kind, int depth) {
            return kind == SKIN ? TENTHS : Math.max(0, TENTHS - 2 * depth);
        }
    }
}
