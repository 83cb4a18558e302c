import java.util.ArrayList;
import java.util.List;

/** A state of an archive to begin a test with, told as the row of calls that leads to it. */
final class World {
    /** A new object. */
    static final World EMPTY = new World();

    /**
     * Something of everything: TRAY 0 fit for a SEARCH of three, TRAY 1 of 8 bits, TRAY 2 of the sort of TRAY 0,
     * TRAY 3 MISSING; BOXES 1, 6 and 10 that stand and 11 that doesn't; THING 1 out, THING 3 BACK; the latest tick 14.
     */
    static final World RICH = new World(
        "thing(0, -1)", "thing(1, 0)", "thing(2, 1)", "thing(3, 2)", "thing(3, 2)", "thing(3, 1)",
        "thing(1, 0)", "thing(3, 6)", "thing(2, 6)", "thing(0, -1)", "thing(1, 9)", "thing(1, 9)",
        "say(0, 0, 5)", "say(2, 0, 7)", "say(0, 5, 999)", "span(3, 10, 20)", "span(1, 15, 30)",
        "count(2, 10)", "count(8, 0)", "join(3, 7)",
        "close(1, 50, 2)", "close(3, 100, 0)", "close(9, 200000, 32768)",
        "mark(3, 50)", "mark(4, 20)", "mark(7, 35)", "mark(0, 9999)",
        "tray(0, 2, 6)", "write(0, 0, 1)", "write(0, 1, 10)", "write(0, 2, 5)", "write(0, 3, 10)", "write(0, 4, 5)",
        "write(0, 5, 1)", "tray(1, 0, 3)", "write(1, 2, -1)", "tray(2, 2, 4)", "write(2, 0, 1000)",
        "search(0, 2, 0)", "fetch(1, 4, 10)", "fetch(3, 5, 12)", "back(3, 14)",
        "stand(1, 0)", "stand(6, 1)", "stand(10, 5)", "goal(1, 1)", "goal(6, 0)", "goal(10, 7)", "goal(11, 39)");

    /** A BOX without a GOAL stands where another one shall go. */
    static final World BLOCKED = RICH.and("goal(6, -1)");

    /** BOXES 1 to 40 fill PLACES 0 to 39, the first two shall change theirs, and BOX 41 stands in none. */
    static final World FULL_SHELVES = new World("thing(0, -1)").andMany(41, "thing(1, 0)")
        .andMany(40, "stand(+1, +0)").and("goal(1, 1)", "goal(2, 0)", "goal(41, 39)");

    /** All 80 THINGS: a SERIES, a BOX, a FOLDER and 77 ITEMS, each with its number as its OLD MARK. */
    static final World FULL_ARCHIVE = new World("thing(0, -1)", "thing(1, 0)", "thing(2, 1)").andMany(77, "thing(3, 2)")
        .andMany(80, "mark(+0, +0)").and("count(2, 999)", "say(0, 5, 0)", "span(0, 1, 2)", "span(79, 0, 2)");

    /** All 200 entries: ITEM 3 goes and comes 99 times at tick 7, then SERIES 0 goes at 8 and BOX 1 at 9. */
    static final World FULL_LOG = new World("thing(0, -1)", "thing(1, 0)", "thing(2, 1)", "thing(3, 2)")
        .andMany(99, "fetch(3, 5, 7)", "back(3, 7)").and("fetch(0, 0, 8)", "fetch(1, 15, 9)");

    private static final String[] LOOKS_AT_A_THING = {
        "told(+0, 0)", "told(+0, 1)", "told(+0, 2)", "told(+0, 3)", "told(+0, 4)", "told(+0, 5)", "told(+0, 6)",
        "has(+0, 0)", "has(+0, 5)", "held(+0, false)", "held(+0, true)",
        "sees(+0, 0, 49)", "sees(+0, 1, 49)", "sees(+0, 0, 99)", "sees(+0, 15, 199999)",
        "where(+0, 7)", "where(+0, 12)", "where(+0, 100000)",
    };
    private static final String[] LOOKS_AT_A_TRAY = {
        "pour(+0, 0, +0, 0, 0)",
        "read(+0, 0)", "read(+0, 1)", "read(+0, 2)", "read(+0, 3)", "read(+0, 4)", "read(+0, 5)", "read(+0, 6)",
    };
    private static final String[] LOOKS_AT_A_CARRY = {
        "carry(+0, 0)", "carry(+0, 1)", "carry(+0, 2)",
    };
    private static final String[] LOOKS_AT_THE_REST = {
        "number(0, 0, 0, 49)", "number(0, 1, 0, 49)", "number(0, 2, 0, 49)", "number(0, 3, 0, 49)",
        "number(0, 1, 1, 100)", "number(0, 3, 1, 100)", "quarrel(0)", "quarrel(1)",
        "walk(0, 15, 200000)", "walk(1, 15, 200000)", "walk(2, 15, 200000)", "walk(3, 15, 200000)",
        "walk(4, 15, 200000)", "plan()", "upper()", "lower()",
    };
    /** They tell a TRAY's sort, how full the LOG is and its latest tick, how many THINGS there are, where BOXES go. */
    private static final String[] LOOKS_THAT_CHANGE = {
        "write(0, 0, 81985529216486895)", "read(0, 0)", "write(1, 0, 81985529216486895)", "read(1, 0)",
        "write(2, 0, 81985529216486895)", "read(2, 0)", "write(3, 0, 81985529216486895)", "read(3, 0)",
        "back(1, 13)", "fetch(2, 0, 14)", "where(2, 14)", "thing(0, -1)", "carried()", "told(1, 4)", "told(6, 4)",
    };
    /** Of more THINGS than twice these only the first and the last ones are looked at. */
    private static final int LOOKED_AT = 6;
    /** What the document promises of one object, less the calls that a test makes between world and looks. */
    private static final int MOST_CALLS = 512 - 12;

    private final List<String> texts = new ArrayList<>();
    private final List<Call> calls = new ArrayList<>();
    private int things = 0;
    private List<Call> looks;
    private long[] untouched;

    World(String... texts) {
        add(texts);
    }

    private void add(String... more) {
        for (String text : more) {
            texts.add(text);
            calls.add(new Call(text));
            things += text.startsWith("thing(") ? 1 : 0;
        }
    }

    World and(String... more) {
        World world = new World(texts.toArray(new String[0]));
        world.add(more);
        return world;
    }

    /** The calls so many times; in time n, "+0" stands for n and "+1" for n + 1. */
    World andMany(int times, String... more) {
        World world = and();
        for (int n = 0; n < times; n++) {
            world.addFor(n, more);
        }
        return world;
    }

    private void addFor(int n, String... more) {
        for (String text : more) {
            add(text.replace("+0", "" + n).replace("+1", "" + (n + 1)));
        }
    }

    BoxArchive ours() {
        BoxArchive x = new BoxArchive();
        for (Call call : calls) {
            if (call.on(x) == call.refusal()) {
                throw new IllegalStateException("the world's " + call.text + " gave STATUS " + x.status());
            }
        }
        return x;
    }

    PlainArchive plain() {
        PlainArchive y = new PlainArchive();
        for (Call call : calls) {
            call.on(y);
        }
        return y;
    }

    /**
     * Calls that show what a call could have changed in an archive of this world: all of it, or a good part where the
     * world is too large for the calls that an object may have. The last ones change it, so it is used up by them.
     */
    private List<Call> looks() {
        if (looks == null) {
            World seen = new World();
            for (int thing = 0; thing < things; thing++) {
                if (thing < LOOKED_AT || thing >= things - LOOKED_AT) {
                    seen.addFor(thing, LOOKS_AT_A_THING);
                }
            }
            for (int i = 0; i < 4; i++) {
                seen.addFor(i, LOOKS_AT_A_TRAY);
                seen.addFor(i, LOOKS_AT_A_CARRY);
            }
            seen.add(LOOKS_AT_THE_REST);
            seen.add(LOOKS_THAT_CHANGE);
            looks = seen.calls;
            if (calls.size() + looks.size() > MOST_CALLS) {
                throw new IllegalStateException("too many calls to look: " + calls.size() + " and " + looks.size());
            }
        }
        return looks;
    }

    /** The archive, that began with this world, looks as if nothing had been called since. */
    void looksUntouched(Checks c, String what, BoxArchive x) {
        if (untouched == null) {
            BoxArchive fresh = ours();
            untouched = looks().stream().mapToLong(look -> look.on(fresh)).toArray();
        }
        for (int i = 0; i < untouched.length; i++) {
            Call look = looks().get(i);
            c.due(what + ", refused, then " + look.text, look.on(x), untouched[i]);
        }
    }

    /** Both archives, that began with this world, look alike. */
    void looksAlike(Checks c, String what, BoxArchive x, PlainArchive y) {
        for (Call look : looks()) {
            c.due(what + ", then " + look.text, look.on(x), look.on(y));
        }
    }
}
