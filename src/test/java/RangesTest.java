/**
 * Each range that the document names, at both ends: the last value that is allowed gives STATUS 0, the first that is
 * not is refused, and so are the least and the greatest int. In a call's text "#" stands for the value.
 */
public final class RangesTest {
    private static final Checks c = new Checks();

    /** Each TRAY has four numbers, all 1. */
    private static final World TRAYS = new World()
        .andMany(4, "tray(+0, 2, 4)", "write(+0, 0, 1)", "write(+0, 1, 1)", "write(+0, 2, 1)", "write(+0, 3, 1)");
    private static final World FULL_TRAY = new World("tray(0, 3, 40)", "tray(1, 3, 40)").andMany(40, "write(0, +0, 1)");
    /** Three SERIES, of each of which all is told. */
    private static final World SERIES = new World("tray(0, 0, 1)")
        .andMany(3, "thing(0, -1)", "say(+0, 0, 1)", "say(+0, 5, 1)", "span(+0, 5, 6)", "mark(+0, +0)");
    /** 0 is a SERIES, 1 a BOX, 2 a FOLDER, 3 and 4 are ITEMS; the FOLDER and the ITEMS have a QUARREL. */
    private static final World LEVELS = new World("thing(0, -1)", "thing(1, 0)", "thing(2, 1)", "thing(3, 2)",
        "thing(3, 1)", "span(1, 5, 6)", "span(2, 0, 1)", "span(3, 2, 2)", "span(4, 0, 9)");
    /** Something was FETCHED at tick 50. */
    private static final World AT_TICK_50 = LEVELS.and("fetch(3, 0, 20)", "fetch(4, 0, 50)");
    /** Three CARRIES. */
    private static final World MOVE = new World("thing(0, -1)")
        .andMany(3, "thing(1, 0)", "stand(+1, +0)").and("goal(1, 10)", "goal(2, 11)", "goal(3, 12)");

    public static void main(String[] args) {
        trays();
        pour();
        things();
        fieldsAndSpans();
        sight();
        marks();
        log();
        shelves();
        search();
        c.end();
    }

    /** From least to greatest are allowed; what is below or above is refused with these. */
    private static void range(String what, World world, String text, int least, int greatest, int below, int above) {
        allowed(what + ", the least", world, text, least);
        allowed(what + ", the greatest", world, text, greatest);
        refused(what + ", one below", world, text, least - 1, below);
        refused(what + ", one above", world, text, greatest + 1, above);
        refused(what + ", the least int", world, text, Integer.MIN_VALUE, below);
        refused(what + ", the greatest int", world, text, Integer.MAX_VALUE, above);
    }

    private static void range(String what, World world, String text, int least, int greatest, int status) {
        range(what, world, text, least, greatest, status, status);
    }

    private static Call with(String text, int value) {
        return new Call(text.replace("#", "" + value));
    }

    private static void allowed(String what, World world, String text, int value) {
        Call call = with(text, value);
        BoxArchive x = world.ours();
        String label = what + ", " + call.text;
        c.due(label, call.on(x), call.on(world.plain()));
        c.due(label + ", its STATUS", x.status(), 0);
    }

    private static void refused(String what, World world, String text, int value, int status) {
        Call call = with(text, value);
        BoxArchive x = world.ours();
        String label = what + ", " + call.text;
        c.due(label, call.on(x), call.refusal());
        c.due(label + ", its STATUS", x.status(), status);
    }

    private static void trays() {
        range("3: TRAYS, 0 to 3", World.EMPTY, "tray(#, 0, 1)", 0, 3, 1);
        range("3: sorts 0 to 3", World.EMPTY, "tray(0, #, 1)", 0, 3, 1);
        range("3: at most 40, not below 0", World.EMPTY, "tray(0, 0, #)", 0, 40, 6, 5);
        range("4: TRAYS, 0 to 3", TRAYS, "write(#, 0, 9)", 0, 3, 1);
        range("4: the places of a full TRAY", FULL_TRAY, "write(0, #, 9)", 0, 39, 4);
        range("4: the places of a short TRAY", TRAYS, "write(0, #, 9)", 0, 3, 4);
        range("4: the only place", SERIES, "write(0, #, 9)", 0, 0, 4);
        range("5: TRAYS, 0 to 3", TRAYS, "read(#, 0)", 0, 3, 1);
        range("5: the places of a full TRAY", FULL_TRAY, "read(0, #)", 0, 39, 4);
        range("5: the places of a short TRAY", TRAYS, "read(0, #)", 0, 3, 4);
        range("5: the only place", SERIES, "read(0, #)", 0, 0, 4);
    }

    private static void pour() {
        range("6: TRAYS, 0 to 3, from", TRAYS, "pour(#, 0, 0, 0, 1)", 0, 3, 1);
        range("6: TRAYS, 0 to 3, to", TRAYS, "pour(0, 0, #, 0, 1)", 0, 3, 1);
        range("6: place i of one number", TRAYS, "pour(0, #, 1, 0, 1)", 0, 3, 4);
        range("6: place j of one number", TRAYS, "pour(0, 0, 1, #, 1)", 0, 3, 4);
        range("6: place i of three", TRAYS, "pour(0, #, 1, 0, 3)", 0, 1, 4);
        range("6: place j of three", TRAYS, "pour(0, 0, 1, #, 3)", 0, 1, 4);
        range("6: place j of three in the same", TRAYS, "pour(0, 0, 0, #, 3)", 0, 1, 4);
        range("6: place i of none", TRAYS, "pour(0, #, 1, 0, 0)", 0, 4, 4);
        range("6: place j of none", TRAYS, "pour(0, 0, 1, #, 0)", 0, 4, 4);
        range("6: so many", TRAYS, "pour(0, 0, 1, 0, #)", 0, 4, 6, 4);
        range("6: so many from place 1", TRAYS, "pour(0, 1, 1, 0, #)", 0, 3, 6, 4);
        range("6: so many to place 1", TRAYS, "pour(0, 0, 1, 1, #)", 0, 3, 6, 4);
        range("6: so many of full TRAYS", FULL_TRAY, "pour(0, 0, 1, 0, #)", 0, 40, 6, 4);
        range("6: so many of the last place", FULL_TRAY, "pour(0, 39, 1, 39, #)", 0, 1, 6, 4);
    }

    private static void things() {
        allowed("7: the least LEVEL", LEVELS, "thing(#, -1)", 0);
        allowed("7: the greatest LEVEL", LEVELS, "thing(#, 2)", 3);
        for (int level : new int[] {-1, 4, Integer.MIN_VALUE, Integer.MAX_VALUE}) {
            refused("7: no such LEVEL", LEVELS, "thing(#, -1)", level, 5);
            refused("7: no such LEVEL", LEVELS, "thing(#, 2)", level, 5);
        }
        range("7: above a BOX", SERIES, "thing(1, #)", 0, 2, 2);
        range("7: above a SERIES, NONE alone", SERIES, "thing(0, #)", -1, -1, 2);
        range("8: THINGS", SERIES, "told(#, 0)", 0, 2, 2);
        range("8: what 0 to 6", SERIES, "told(0, #)", 0, 6, 5);
        range("8: what 0 to 6 of an ITEM", LEVELS, "told(4, #)", 0, 6, 5);
    }

    private static void fieldsAndSpans() {
        range("9: THINGS", SERIES, "say(#, 0, 1)", 0, 2, 2);
        range("9: FIELDS 0 to 5", SERIES, "say(0, #, 1)", 0, 5, 2);
        range("9: numbers 0 to 999 and NONE", SERIES, "say(0, 0, #)", -1, 999, 5);
        range("10: THINGS", SERIES, "has(#, 0)", 0, 2, 2);
        range("10: FIELDS 0 to 5", SERIES.andMany(6, "say(0, +0, +0)"), "has(0, #)", 0, 5, 2);
        range("11: THINGS", SERIES, "span(#, 1, 2)", 0, 2, 2);
        range("11: from day 0 on, not above to", SERIES, "span(0, #, 7)", 0, 7, 5);
        range("11: to day 100,000, not below from", SERIES, "span(0, 7, #)", 7, 100_000, 5);
        range("11: from, of the last day", SERIES, "span(0, #, 100000)", 0, 100_000, 5);
        range("11: to, of the first day", SERIES, "span(0, 0, #)", 0, 100_000, 5);
        range("12: THINGS", SERIES, "noSpan(#)", 0, 2, 2);
        range("13: THINGS", SERIES, "held(#, false)", 0, 2, 2);
        range("13: THINGS, the end", SERIES, "held(#, true)", 0, 2, 2);
        range("14: k of three", LEVELS, "quarrel(#)", 0, 2, 5, 9);
        range("15: COUNT 0 to 999 and NONE", LEVELS, "count(2, #)", -1, 999, 5);
    }

    private static void sight() {
        range("17: THINGS", SERIES, "close(#, 1, 0)", 0, 2, 2);
        range("17: days 0 to 200,000 and NONE", SERIES, "close(0, #, 0)", -1, 200_000, 5);
        range("17: PERSONS 0 to 65,535", SERIES, "close(0, 1, #)", 0, 65_535, 5);
        range("18: THINGS", SERIES, "sees(#, 0, 0)", 0, 2, 2);
        range("18: PERSONS 0 to 15", SERIES, "sees(0, #, 0)", 0, 15, 2);
        range("18: days 0 to 300,000", SERIES, "sees(0, 0, #)", 0, 300_000, 5);
        range("19: THINGS", SERIES, "number(#, 0, 0, 0)", 0, 2, 2);
        range("19: LEVELS 0 to 3", LEVELS, "number(0, #, 0, 0)", 0, 3, 5);
        range("19: PERSONS 0 to 15", SERIES, "number(0, 0, #, 0)", 0, 15, 2);
        range("19: days 0 to 300,000", SERIES, "number(0, 0, 0, #)", 0, 300_000, 5);
        range("20: FIELDS 0 to 5", SERIES, "find(#, 1, 0, 0, 0)", 0, 5, 2);
        range("20: numbers 0 to 999", SERIES, "find(0, #, 0, 0, 0)", 0, 999, 5);
        range("20: PERSONS 0 to 15", SERIES, "find(0, 1, #, 0, 0)", 0, 15, 2);
        range("20: days 0 to 300,000", SERIES, "find(0, 1, 0, #, 0)", 0, 300_000, 5);
        range("20: TRAYS, 0 to 3", TRAYS, "find(0, 1, 0, 0, #)", 0, 3, 1);
    }

    private static void marks() {
        range("21: THINGS", SERIES, "mark(#, 9)", 0, 2, 2);
        range("21: OLD MARKS 0 to 9,999 and NONE", SERIES, "mark(0, #)", -1, 9_999, 5);
        allowed("21: the least OLD MARK", SERIES, "mark(0, #)", 0);
        range("22: k of three", SERIES, "walk(#, 0, 0)", 0, 2, 5, 9);
        range("22: PERSONS 0 to 15", SERIES, "walk(0, #, 0)", 0, 15, 2);
        range("22: days 0 to 300,000", SERIES, "walk(0, 0, #)", 0, 300_000, 5);
    }

    private static void log() {
        range("23: THINGS", SERIES, "fetch(#, 0, 0)", 0, 2, 2);
        range("23: PERSONS 0 to 15", SERIES, "fetch(0, #, 0)", 0, 15, 2);
        range("23: ticks 0 to 100,000", SERIES, "fetch(0, 0, #)", 0, 100_000, 5);
        range("23: ticks that never go back", AT_TICK_50, "fetch(1, 0, #)", 50, 100_000, 5);
        range("23: the last tick", LEVELS.and("fetch(0, 0, 100000)"), "fetch(1, 0, #)", 100_000, 100_000, 5);
        World out = SERIES.and("fetch(0, 1, 0)", "fetch(1, 1, 0)", "fetch(2, 1, 0)");
        range("24: THINGS", out, "back(#, 0)", 0, 2, 2);
        range("24: ticks 0 to 100,000", out, "back(1, #)", 0, 100_000, 5);
        range("24: ticks that never go back", AT_TICK_50, "back(3, #)", 50, 100_000, 5);
        range("24: a tick of BACK counts too", AT_TICK_50.and("back(3, 60)"), "back(4, #)", 60, 100_000, 5);
        range("25: THINGS", SERIES, "where(#, 0)", 0, 2, 2);
        range("25: ticks 0 to 100,000", SERIES, "where(0, #)", 0, 100_000, 5);
        range("25: ticks 0 to 100,000, also those that are gone", AT_TICK_50, "where(3, #)", 0, 100_000, 5);
    }

    private static void shelves() {
        range("26: PLACES 0 to 39 and NONE", LEVELS, "stand(1, #)", -1, 39, 2);
        allowed("26: the first PLACE", LEVELS, "stand(1, #)", 0);
        range("27: PLACES 0 to 39 and NONE", LEVELS, "goal(1, #)", -1, 39, 2);
        allowed("27: the first PLACE", LEVELS, "goal(1, #)", 0);
        for (String text : new String[] {"stand(#, 3)", "goal(#, 3)"}) {
            for (int none : new int[] {-1, 5, Integer.MIN_VALUE, Integer.MAX_VALUE}) {
                refused("26, 27: no such THING", LEVELS, text, none, 2);
            }
            for (int other : new int[] {0, 2, 3, 4}) {
                refused("26, 27: no BOX", LEVELS, text, other, 8);
            }
        }
        range("29: k of three", MOVE, "carry(#, 0)", 0, 2, 9);
        range("29: what 0 to 2", MOVE, "carry(0, #)", 0, 2, 5);
        range("29: what 0 to 2 of the last", MOVE, "carry(2, #)", 0, 2, 5);
    }

    private static void search() {
        range("31: TRAYS, 0 to 3", TRAYS, "search(#, 1, 0)", 0, 3, 1);
        range("31: 1 to 20 places", FULL_TRAY, "search(0, #, 0)", 1, 20, 5);
        range("31: k of one", FULL_TRAY, "search(0, 1, #)", 0, 0, 9);
        range("31: k of twenty", FULL_TRAY, "search(0, 20, #)", 0, 19, 9);
        allowed("31: as many as the TRAY has", TRAYS, "search(0, #, 0)", 2);
        refused("31: one more than the TRAY has", TRAYS, "search(0, #, 0)", 3, 4);
        for (int place = 0; place < 4; place++) {
            for (int v : new int[] {1, 999}) {
                allowed("31: WEIGHT and COST 1 to 999", TRAYS.and("write(0, " + place + ", " + v + ")"),
                    "search(0, #, 0)", 2);
            }
            for (int v : new int[] {0, 1000, -1, Integer.MIN_VALUE, Integer.MAX_VALUE}) {
                refused("31: WEIGHT and COST 1 to 999", TRAYS.and("write(0, " + place + ", " + v + ")"),
                    "search(0, #, 0)", 2, 5);
            }
        }
        for (int length = 0; length <= 40; length++) {
            World w = new World("tray(0, 0, " + length + ")").andMany(length, "write(0, +0, 1)");
            if (length >= 2) {
                allowed("31: TRAY of " + length, w, "search(0, #, 0)", length / 2);
            }
            if (length < 40) {
                refused("31: TRAY of " + length, w, "search(0, #, 0)", length / 2 + 1, 4);
            }
        }
    }
}
