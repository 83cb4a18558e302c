import java.util.Arrays;

/**
 * Keeps an archive: things within things, who may see them until when, a log of what was fetched,
 * boxes on shelves, and the cheapest order of a search. The words in capitals are the document's.
 */
public final class BoxArchive {
    /** Stands for no thing, no place, no number; also the answer of a call that was refused. */
    public static final int NONE = -1;

    private static final int FINE = 0;
    private static final int NO_TRAY = 1;
    private static final int NO_SUCH = 2;
    private static final int MISSING = 3;
    private static final int OUTSIDE_TRAY = 4;
    private static final int BAD_NUMBER = 5;
    private static final int BELOW_ZERO = 6;
    private static final int TOO_MANY = 7;
    private static final int WRONG_LEVEL = 8;
    private static final int NOT_THERE = 9;
    private static final int ALREADY = 10;
    private static final int UNLIKE_SORTS = 11;
    private static final int CANNOT_MOVE = 12;

    private static final int SERIES = 0;
    private static final int BOX = 1;
    private static final int FOLDER = 2;
    private static final int ITEM = 3;

    private static final int TRAYS = 4;
    private static final int SORTS = 4;
    private static final int LONGEST_TRAY = 40;
    private static final int MOST_THINGS = 80;
    private static final int FIELDS = 6;
    private static final int PERSONS = 16;
    private static final int PLACES = 40;
    private static final int MOST_ENTRIES = 200;
    private static final int MOST_SEARCHED = 20;
    /** A box of a plan is carried at most twice: out of the way, and to its goal. */
    private static final int MOST_CARRIES = 2 * PLACES;
    /** Far more steps than a common divisor of two longs can take. */
    private static final int MOST_DIVISIONS = 200;

    private static final int LAST_NUMBER = 999;
    private static final int LAST_SPAN_DAY = 100_000;
    private static final int LAST_CLOSED_DAY = 200_000;
    private static final int LAST_DAY = 300_000;
    private static final int LAST_TICK = 100_000;
    private static final int LAST_MARK = 9_999;
    private static final int ALL_PERSONS = 65_535;

    private final Tray[] trays = new Tray[TRAYS];
    private final Catalogue catalogue = new Catalogue();
    private final Log log = new Log();
    private final Shelves shelves = new Shelves();
    private final Search best = new Search();
    private int latestStatus = FINE;
    private long fractionUpper = 0;
    private long fractionLower = 1;

    public BoxArchive() {
        for (int i = 0; i < TRAYS; i++) {
            trays[i] = new Tray();
        }
    }

    public int status() {
        return latestStatus;
    }

    // ---- TRAYS

    public boolean tray(int tray, int sort, int many) {
        Tray row = trayAt(tray);
        if (row == null || !within(sort, 0, SORTS - 1)) {
            return deny(NO_TRAY);
        }
        if (many > LONGEST_TRAY) {
            return deny(BAD_NUMBER);
        }
        if (many < 0) {
            return deny(BELOW_ZERO);
        }
        row.renew(sort, many);
        return grant();
    }

    public boolean write(int tray, int place, long v) {
        Tray row = trayAt(tray);
        int why = whyNotIn(row, place);
        if (row == null || why != FINE) {
            return deny(why);
        }
        row.put(place, v);
        return grant();
    }

    public long read(int tray, int place) {
        Tray row = trayAt(tray);
        int why = whyNotIn(row, place);
        if (row == null || why != FINE) {
            return refuse(why);
        }
        latestStatus = FINE;
        return row.numbers[place];
    }

    public boolean pour(int tray, int i, int to, int j, int many) {
        Tray source = trayAt(tray);
        Tray target = trayAt(to);
        if (source == null || target == null) {
            return deny(NO_TRAY);
        }
        if (source.isMissing() || target.isMissing()) {
            return deny(MISSING);
        }
        if (source.sort != target.sort) {
            return deny(UNLIKE_SORTS);
        }
        if (many < 0) {
            return deny(BELOW_ZERO);
        }
        if (!source.hasRun(i, many) || !target.hasRun(j, many)) {
            return deny(OUTSIDE_TRAY);
        }
        System.arraycopy(source.numbers, i, target.numbers, j, many);
        return grant();
    }

    // ---- THINGS

    public int thing(int level, int above) {
        if (!within(level, SERIES, ITEM)) {
            return refuse(BAD_NUMBER);
        }
        Thing whole = catalogue.at(above);
        if (level == SERIES ? above != NONE : whole == null) {
            return refuse(NO_SUCH);
        }
        if (whole != null && !mayBeIn(level, whole.level)) {
            return refuse(WRONG_LEVEL);
        }
        if (catalogue.size >= MOST_THINGS) {
            return refuse(TOO_MANY);
        }
        return answer(catalogue.add(level, whole));
    }

    public int told(int thing, int what) {
        Thing t = catalogue.at(thing);
        if (t == null) {
            return refuse(NO_SUCH);
        }
        switch (what) {
            case 0:
                return answer(t.level);
            case 1:
                return answer(t.above == null ? NONE : t.above.number);
            case 2:
                return answer(catalogue.rightIn(t));
            case 3:
                return answer(t.uncatalogued);
            case 4:
                return answer(shelves.now.placeOf[thing]);
            case 5:
                return answer(shelves.goalOf[thing]);
            case 6:
                return answer(t.oldMark);
            default:
                return refuse(BAD_NUMBER);
        }
    }

    public boolean say(int thing, int field, int number) {
        Thing t = catalogue.at(thing);
        if (t == null || !isField(field)) {
            return deny(NO_SUCH);
        }
        if (!within(number, NONE, LAST_NUMBER)) {
            return deny(BAD_NUMBER);
        }
        t.said[field] = number;
        return grant();
    }

    public int has(int thing, int field) {
        Thing t = catalogue.at(thing);
        if (t == null || !isField(field)) {
            return refuse(NO_SUCH);
        }
        int number = t.saidInLine(field);
        return number == NONE ? refuse(NOT_THERE) : answer(number);
    }

    public boolean span(int thing, int from, int to) {
        Thing t = catalogue.at(thing);
        if (t == null) {
            return deny(NO_SUCH);
        }
        if (!within(from, 0, to) || to > LAST_SPAN_DAY) {
            return deny(BAD_NUMBER);
        }
        t.from = from;
        t.to = to;
        return grant();
    }

    public boolean noSpan(int thing) {
        Thing t = catalogue.at(thing);
        if (t == null) {
            return deny(NO_SUCH);
        }
        if (!t.hasSpan()) {
            return deny(NOT_THERE);
        }
        t.from = NONE;
        t.to = NONE;
        return grant();
    }

    public int held(int thing, boolean end) {
        Thing t = catalogue.at(thing);
        if (t == null) {
            return refuse(NO_SUCH);
        }
        int day = catalogue.heldDay(t, end);
        return day == NONE ? refuse(NOT_THERE) : answer(day);
    }

    public int quarrel(int k) {
        if (k < 0) {
            return refuse(BAD_NUMBER);
        }
        int thing = catalogue.quarrelling(k);
        return thing == NONE ? refuse(NOT_THERE) : answer(thing);
    }

    public boolean count(int folder, int many) {
        Thing t = catalogue.at(folder);
        if (t == null) {
            return deny(NO_SUCH);
        }
        if (!within(many, NONE, LAST_NUMBER)) {
            return deny(BAD_NUMBER);
        }
        if (t.level != FOLDER) {
            return deny(WRONG_LEVEL);
        }
        t.uncatalogued = many;
        return grant();
    }

    public boolean join(int a, int b) {
        Thing one = catalogue.at(a);
        Thing other = catalogue.at(b);
        if (one == null || other == null) {
            return deny(NO_SUCH);
        }
        if (a == b) {
            return deny(BAD_NUMBER);
        }
        if (one.level != ITEM || other.level != ITEM) {
            return deny(WRONG_LEVEL);
        }
        if (one.piece == other.piece) {
            return deny(ALREADY);
        }
        catalogue.unite(one.piece, other.piece);
        return grant();
    }

    // ---- who sees what

    public boolean close(int thing, int day, int but) {
        Thing t = catalogue.at(thing);
        if (t == null) {
            return deny(NO_SUCH);
        }
        if (!within(day, NONE, LAST_CLOSED_DAY) || !within(but, 0, ALL_PERSONS)) {
            return deny(BAD_NUMBER);
        }
        t.closedUntil = day;
        t.closedBut = but;
        return grant();
    }

    public int sees(int thing, int person, int day) {
        Thing t = catalogue.at(thing);
        if (t == null || !isPerson(person)) {
            return refuse(NO_SUCH);
        }
        if (!isDay(day)) {
            return refuse(BAD_NUMBER);
        }
        return answer(t.isSeen(person, day) ? 1 : 0);
    }

    public int number(int thing, int level, int person, int day) {
        Thing t = catalogue.at(thing);
        if (t == null || !isPerson(person)) {
            return refuse(NO_SUCH);
        }
        if (!within(level, SERIES, ITEM) || !isDay(day)) {
            return refuse(BAD_NUMBER);
        }
        if (level == ITEM) {
            return answer(catalogue.piecesSeen(t, person, day) + catalogue.uncataloguedSeen(t, person, day));
        }
        return answer(catalogue.partsSeen(t, level, person, day));
    }

    public int find(int field, int number, int person, int day, int tray) {
        Tray row = trayAt(tray);
        if (row == null) {
            return refuse(NO_TRAY);
        }
        if (!isField(field) || !isPerson(person)) {
            return refuse(NO_SUCH);
        }
        if (row.isMissing()) {
            return refuse(MISSING);
        }
        if (!within(number, 0, LAST_NUMBER) || !isDay(day)) {
            return refuse(BAD_NUMBER);
        }
        int found = 0;
        for (int i = 0; i < catalogue.size; i++) {
            Thing t = catalogue.things[i];
            if (t.level == ITEM && t.saidInLine(field) == number && t.isSeen(person, day)) {
                if (row.hasPlace(found)) {
                    row.put(found, i);
                }
                found++;
            }
        }
        return answer(found);
    }

    public boolean mark(int thing, int mark) {
        Thing t = catalogue.at(thing);
        if (t == null) {
            return deny(NO_SUCH);
        }
        if (!within(mark, NONE, LAST_MARK)) {
            return deny(BAD_NUMBER);
        }
        if (mark != NONE && catalogue.isMarkOfAnother(mark, t)) {
            return deny(ALREADY);
        }
        t.oldMark = mark;
        return grant();
    }

    public int walk(int k, int person, int day) {
        if (!isPerson(person)) {
            return refuse(NO_SUCH);
        }
        if (k < 0 || !isDay(day)) {
            return refuse(BAD_NUMBER);
        }
        int many = catalogue.lineUpByMark(person, day);
        return k < many ? answer(catalogue.byMark[k].number) : refuse(NOT_THERE);
    }

    // ---- the LOG

    public boolean fetch(int thing, int person, int tick) {
        if (catalogue.at(thing) == null || !isPerson(person)) {
            return deny(NO_SUCH);
        }
        int why = log.whyNot(tick);
        if (why != FINE) {
            return deny(why);
        }
        if (log.holder(thing, tick) != NONE) {
            return deny(ALREADY);
        }
        log.append(thing, person, tick);
        return grant();
    }

    public boolean back(int thing, int tick) {
        if (catalogue.at(thing) == null) {
            return deny(NO_SUCH);
        }
        int why = log.whyNot(tick);
        if (why != FINE) {
            return deny(why);
        }
        if (log.holder(thing, tick) == NONE) {
            return deny(ALREADY);
        }
        log.append(thing, NONE, tick);
        return grant();
    }

    public int where(int thing, int tick) {
        Thing t = catalogue.at(thing);
        if (t == null) {
            return refuse(NO_SUCH);
        }
        if (!within(tick, 0, LAST_TICK)) {
            return refuse(BAD_NUMBER);
        }
        int holder = NONE;
        for (Thing in = t; in != null && holder == NONE; in = in.above) {
            holder = log.holder(in.number, tick);
        }
        return answer(holder);
    }

    // ---- SHELVES

    public boolean stand(int box, int place) {
        int why = whyNotOnShelf(box, place);
        if (why != FINE) {
            return deny(why);
        }
        if (place != NONE && !shelves.now.isFreeFor(box, place)) {
            return deny(ALREADY);
        }
        shelves.now.put(box, place);
        return grant();
    }

    public boolean goal(int box, int place) {
        int why = whyNotOnShelf(box, place);
        if (why != FINE) {
            return deny(why);
        }
        if (place != NONE && shelves.isGoalOfAnother(place, box)) {
            return deny(ALREADY);
        }
        shelves.goalOf[box] = place;
        return grant();
    }

    public int plan() {
        return shelves.makePlan() ? answer(shelves.carries) : refuse(CANNOT_MOVE);
    }

    public int carry(int k, int what) {
        if (!shelves.makePlan()) {
            return refuse(CANNOT_MOVE);
        }
        if (!within(k, 0, shelves.carries - 1)) {
            return refuse(NOT_THERE);
        }
        switch (what) {
            case 0:
                return answer(shelves.carryBox[k]);
            case 1:
                return answer(shelves.carryFrom[k]);
            case 2:
                return answer(shelves.carryTo[k]);
            default:
                return refuse(BAD_NUMBER);
        }
    }

    public boolean carried() {
        if (!shelves.makePlan()) {
            return deny(CANNOT_MOVE);
        }
        shelves.now.copyFrom(shelves.later);
        return grant();
    }

    public int search(int tray, int many, int k) {
        Tray row = trayAt(tray);
        if (row == null) {
            return refuse(NO_TRAY);
        }
        if (row.isMissing()) {
            return refuse(MISSING);
        }
        if (!within(many, 1, MOST_SEARCHED)) {
            return refuse(BAD_NUMBER);
        }
        if (!row.hasRun(0, 2 * many)) {
            return refuse(OUTSIDE_TRAY);
        }
        if (!best.takes(row.numbers, many)) {
            return refuse(BAD_NUMBER);
        }
        if (!within(k, 0, many - 1)) {
            return refuse(NOT_THERE);
        }
        best.arrange();
        keepFraction(best.weightedCosts(), best.weights());
        return answer(best.order[k]);
    }

    public long upper() {
        return fractionUpper;
    }

    public long lower() {
        return fractionLower;
    }

    // ---- what the calls share

    private int refuse(int why) {
        latestStatus = why;
        return NONE;
    }

    private boolean deny(int why) {
        latestStatus = why;
        return false;
    }

    private int answer(int value) {
        latestStatus = FINE;
        return value;
    }

    private boolean grant() {
        latestStatus = FINE;
        return true;
    }

    private Tray trayAt(int tray) {
        return within(tray, 0, TRAYS - 1) ? trays[tray] : null;
    }

    private static int whyNotIn(Tray row, int place) {
        if (row == null) {
            return NO_TRAY;
        }
        if (row.isMissing()) {
            return MISSING;
        }
        return row.hasPlace(place) ? FINE : OUTSIDE_TRAY;
    }

    private int whyNotOnShelf(int box, int place) {
        Thing t = catalogue.at(box);
        if (t == null || !within(place, NONE, PLACES - 1)) {
            return NO_SUCH;
        }
        return t.level == BOX ? FINE : WRONG_LEVEL;
    }

    private void keepFraction(long upper, long lower) {
        long divisor = commonDivisor(upper, lower);
        if (divisor > 0) {
            fractionUpper = upper / divisor;
            fractionLower = lower / divisor;
        }
    }

    private static long commonDivisor(long a, long b) {
        long greater = a;
        long lesser = b;
        for (int i = 0; i < MOST_DIVISIONS && lesser != 0; i++) {
            long rest = greater % lesser;
            greater = lesser;
            lesser = rest;
        }
        return greater;
    }

    private static boolean mayBeIn(int level, int levelAbove) {
        return levelAbove == level - 1 || level == ITEM && levelAbove == BOX;
    }

    private static boolean isField(int field) {
        return within(field, 0, FIELDS - 1);
    }

    private static boolean isPerson(int person) {
        return within(person, 0, PERSONS - 1);
    }

    private static boolean isDay(int day) {
        return within(day, 0, LAST_DAY);
    }

    private static boolean within(int value, int least, int greatest) {
        return value >= least && value <= greatest;
    }

    /** A row of numbers; it has no sort as long as it is MISSING. */
    private static final class Tray {
        final long[] numbers = new long[LONGEST_TRAY];
        int sort = NONE;
        int length = 0;

        boolean isMissing() {
            return sort == NONE;
        }

        void renew(int newSort, int newLength) {
            sort = newSort;
            length = newLength;
            Arrays.fill(numbers, 0L);
        }

        boolean hasPlace(int place) {
            return place >= 0 && place < length;
        }

        /** Takes many as not below 0, so that the difference can't wrap around. */
        boolean hasRun(int first, int many) {
            return first >= 0 && first <= length - many;
        }

        void put(int place, long v) {
            numbers[place] = cut(v);
        }

        private long cut(long v) {
            switch (sort) {
                case 0:
                    return (byte) v;
                case 1:
                    return (short) v;
                case 2:
                    return (int) v;
                default:
                    return v;
            }
        }
    }

    /** A SERIES, BOX, FOLDER or ITEM. What is above never changes, so that each LINE has an end. */
    private static final class Thing {
        final int number;
        final int level;
        final Thing above;
        final int[] said = new int[FIELDS];
        int from = NONE;
        int to = NONE;
        int uncatalogued = NONE;
        int closedUntil = NONE;
        int closedBut = 0;
        int oldMark = NONE;
        /** All ITEMS of one PIECE bear the same number here, that of one of them. */
        int piece;

        Thing(int number, int level, Thing above) {
            this.number = number;
            this.level = level;
            this.above = above;
            this.piece = number;
            Arrays.fill(said, NONE);
        }

        boolean isPartOf(Thing whole) {
            Thing t = this;
            while (t != null && t != whole) {
                t = t.above;
            }
            return t != null;
        }

        int saidInLine(int field) {
            int nearest = NONE;
            for (Thing t = this; t != null && nearest == NONE; t = t.above) {
                nearest = t.said[field];
            }
            return nearest;
        }

        boolean hasSpan() {
            return from != NONE;
        }

        /** Whether no SPAN told between the two hides this one's from the whole. */
        boolean showsSpanTo(Thing whole) {
            Thing t = above;
            while (t != null && t != whole && !t.hasSpan()) {
                t = t.above;
            }
            return hasSpan() && t == whole;
        }

        boolean hasQuarrel() {
            Thing t = above;
            while (t != null && !t.hasSpan()) {
                t = t.above;
            }
            return hasSpan() && t != null && (from < t.from || to > t.to);
        }

        boolean isSeen(int person, int day) {
            Thing t = this;
            while (t != null && !t.isClosedTo(person, day)) {
                t = t.above;
            }
            return t == null;
        }

        private boolean isClosedTo(int person, int day) {
            return day < closedUntil && (closedBut >> person & 1) == 0;
        }
    }

    /** All THINGS, by number. */
    private static final class Catalogue {
        final Thing[] things = new Thing[MOST_THINGS];
        int size = 0;
        /** Made once and used again by each WALK. */
        final Thing[] byMark = new Thing[MOST_THINGS];
        /** Made once and used again by each NUMBER. */
        private final boolean[] pieceMet = new boolean[MOST_THINGS];

        Thing at(int number) {
            return number >= 0 && number < size ? things[number] : null;
        }

        int add(int level, Thing above) {
            int number = size;
            if (number >= MOST_THINGS) {
                return NONE;
            }
            things[number] = new Thing(number, level, above);
            size = number + 1;
            return number;
        }

        int rightIn(Thing whole) {
            int many = 0;
            for (int i = 0; i < size; i++) {
                if (things[i].above == whole) {
                    many++;
                }
            }
            return many;
        }

        int heldDay(Thing whole, boolean end) {
            if (whole.hasSpan()) {
                return end ? whole.to : whole.from;
            }
            int day = NONE;
            for (int i = 0; i < size; i++) {
                Thing t = things[i];
                if (t.showsSpanTo(whole)) {
                    day = end ? Math.max(day, t.to) : earlier(day, t.from);
                }
            }
            return day;
        }

        private static int earlier(int day, int other) {
            return day == NONE ? other : Math.min(day, other);
        }

        int quarrelling(int k) {
            int left = k;
            for (int i = 0; i < size; i++) {
                if (things[i].hasQuarrel()) {
                    if (left == 0) {
                        return i;
                    }
                    left--;
                }
            }
            return NONE;
        }

        void unite(int piece, int other) {
            for (int i = 0; i < size; i++) {
                if (things[i].piece == other) {
                    things[i].piece = piece;
                }
            }
        }

        int partsSeen(Thing whole, int level, int person, int day) {
            int many = 0;
            for (int i = 0; i < size; i++) {
                if (isPartSeen(things[i], whole, level, person, day)) {
                    many++;
                }
            }
            return many;
        }

        int piecesSeen(Thing whole, int person, int day) {
            for (int i = 0; i < size; i++) {
                pieceMet[i] = false;
            }
            int many = 0;
            for (int i = 0; i < size; i++) {
                Thing t = things[i];
                if (isPartSeen(t, whole, ITEM, person, day) && !pieceMet[t.piece]) {
                    pieceMet[t.piece] = true;
                    many++;
                }
            }
            return many;
        }

        int uncataloguedSeen(Thing whole, int person, int day) {
            int many = 0;
            for (int i = 0; i < size; i++) {
                Thing t = things[i];
                if (t.uncatalogued != NONE && isPartSeen(t, whole, FOLDER, person, day)) {
                    many += t.uncatalogued;
                }
            }
            return many;
        }

        private static boolean isPartSeen(Thing t, Thing whole, int level, int person, int day) {
            return t.level == level && t.isPartOf(whole) && t.isSeen(person, day);
        }

        boolean isMarkOfAnother(int mark, Thing thing) {
            for (int i = 0; i < size; i++) {
                if (things[i].oldMark == mark && things[i] != thing) {
                    return true;
                }
            }
            return false;
        }

        /** Brings the WALK into byMark and tells how long it is. */
        int lineUpByMark(int person, int day) {
            int many = 0;
            for (int i = 0; i < size; i++) {
                Thing t = things[i];
                if (t.oldMark != NONE && t.isSeen(person, day)) {
                    insertByMark(t, many);
                    many++;
                }
            }
            return many;
        }

        private void insertByMark(Thing thing, int many) {
            int at = many;
            while (at > 0 && byMark[at - 1].oldMark > thing.oldMark) {
                byMark[at] = byMark[at - 1];
                at--;
            }
            byMark[at] = thing;
        }
    }

    /** What was FETCHED and put BACK, by ticks; the person of an entry BACK is NONE. */
    private static final class Log {
        private final int[] things = new int[MOST_ENTRIES];
        private final int[] persons = new int[MOST_ENTRIES];
        private final int[] ticks = new int[MOST_ENTRIES];
        private int size = 0;

        int whyNot(int tick) {
            int latest = size == 0 ? 0 : ticks[size - 1];
            if (!within(tick, latest, LAST_TICK)) {
                return BAD_NUMBER;
            }
            return size < MOST_ENTRIES ? FINE : TOO_MANY;
        }

        void append(int thing, int person, int tick) {
            if (size < MOST_ENTRIES) {
                things[size] = thing;
                persons[size] = person;
                ticks[size] = tick;
                size++;
            }
        }

        /** Who has the thing at the tick by an entry of its own. */
        int holder(int thing, int tick) {
            for (int i = size - 1; i >= 0; i--) {
                if (things[i] == thing && ticks[i] <= tick) {
                    return persons[i];
                }
            }
            return NONE;
        }
    }

    /** Which BOX stands where, kept both ways round. */
    private static final class Layout {
        final int[] placeOf = new int[MOST_THINGS];
        final int[] boxIn = new int[PLACES];

        Layout() {
            Arrays.fill(placeOf, NONE);
            Arrays.fill(boxIn, NONE);
        }

        void copyFrom(Layout other) {
            System.arraycopy(other.placeOf, 0, placeOf, 0, MOST_THINGS);
            System.arraycopy(other.boxIn, 0, boxIn, 0, PLACES);
        }

        boolean isFreeFor(int box, int place) {
            return boxIn[place] == NONE || boxIn[place] == box;
        }

        void put(int box, int place) {
            if (placeOf[box] != NONE) {
                boxIn[placeOf[box]] = NONE;
            }
            placeOf[box] = place;
            if (place != NONE) {
                boxIn[place] = box;
            }
        }

        int leastEmpty() {
            for (int place = 0; place < PLACES; place++) {
                if (boxIn[place] == NONE) {
                    return place;
                }
            }
            return NONE;
        }
    }

    /** The BOXES as they stand, their GOALS, and the PLAN that was made latest. */
    private static final class Shelves {
        final Layout now = new Layout();
        /** How the BOXES stand behind the CARRIES planned so far. */
        final Layout later = new Layout();
        final int[] goalOf = new int[MOST_THINGS];
        final int[] carryBox = new int[MOST_CARRIES];
        final int[] carryFrom = new int[MOST_CARRIES];
        final int[] carryTo = new int[MOST_CARRIES];
        int carries = 0;

        Shelves() {
            Arrays.fill(goalOf, NONE);
        }

        boolean isGoalOfAnother(int place, int box) {
            for (int i = 0; i < MOST_THINGS; i++) {
                if (goalOf[i] == place && i != box) {
                    return true;
                }
            }
            return false;
        }

        /** Whether the MOVE can be; the PLAN is whole only then. */
        boolean makePlan() {
            carries = 0;
            later.copyFrom(now);
            if (isGoalBlocked()) {
                return false;
            }
            for (int step = 0; step < MOST_CARRIES; step++) {
                int box = nextBox();
                if (box == NONE) {
                    return true;
                }
                int to = isGoalEmpty(box) ? goalOf[box] : later.leastEmpty();
                if (to == NONE) {
                    return false;
                }
                addCarry(box, to);
            }
            return nextBox() == NONE;
        }

        /** A BOX without a GOAL is never carried, so that none can come to where it stands. */
        private boolean isGoalBlocked() {
            for (int box = 0; box < MOST_THINGS; box++) {
                if (isAstray(box)) {
                    int inTheWay = now.boxIn[goalOf[box]];
                    if (inTheWay != NONE && goalOf[inTheWay] == NONE) {
                        return true;
                    }
                }
            }
            return false;
        }

        private int nextBox() {
            int leastAstray = NONE;
            for (int box = 0; box < MOST_THINGS; box++) {
                if (isAstray(box)) {
                    if (isGoalEmpty(box)) {
                        return box;
                    }
                    if (leastAstray == NONE) {
                        leastAstray = box;
                    }
                }
            }
            return leastAstray;
        }

        private boolean isAstray(int box) {
            return goalOf[box] != NONE && later.placeOf[box] != NONE && later.placeOf[box] != goalOf[box];
        }

        private boolean isGoalEmpty(int box) {
            return later.boxIn[goalOf[box]] == NONE;
        }

        private void addCarry(int box, int to) {
            if (carries < MOST_CARRIES) {
                carryBox[carries] = box;
                carryFrom[carries] = later.placeOf[box];
                carryTo[carries] = to;
                carries++;
                later.put(box, to);
            }
        }
    }

    /** The places of one SEARCH and their BEST order. */
    private static final class Search {
        final int[] order = new int[MOST_SEARCHED];
        private final long[] weight = new long[MOST_SEARCHED];
        private final long[] cost = new long[MOST_SEARCHED];
        private int many = 0;

        /** Takes over WEIGHTS and COSTS; false if one of them can't be. */
        boolean takes(long[] numbers, int places) {
            many = 0;
            for (int i = 0; i < places; i++) {
                weight[i] = numbers[2 * i];
                cost[i] = numbers[2 * i + 1];
                if (!isFit(weight[i]) || !isFit(cost[i])) {
                    return false;
                }
            }
            many = places;
            return true;
        }

        private static boolean isFit(long number) {
            return number >= 1 && number <= LAST_NUMBER;
        }

        /** Two neighbours in the order are best the one with less COST for its WEIGHT ahead. */
        void arrange() {
            for (int place = 0; place < many; place++) {
                int at = place;
                while (at > 0 && isCheaper(place, order[at - 1])) {
                    order[at] = order[at - 1];
                    at--;
                }
                order[at] = place;
            }
        }

        private boolean isCheaper(int place, int other) {
            return cost[place] * weight[other] < cost[other] * weight[place];
        }

        long weightedCosts() {
            long spent = 0;
            long sum = 0;
            for (int i = 0; i < many; i++) {
                spent += cost[order[i]];
                sum += weight[order[i]] * spent;
            }
            return sum;
        }

        long weights() {
            long sum = 0;
            for (int i = 0; i < many; i++) {
                sum += weight[i];
            }
            return sum;
        }
    }
}
