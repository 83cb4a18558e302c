/**
 * ==== 5: "STATUS of a call is the first of these that holds", "A call with another STATUS than 0 gives NONE, or false,
 * and changes nothing but STATUS". Each STATUS of each call alone, and where two or more hold at once; behind each
 * the whole archive is looked at. A label begins with the promise's number and names the STATUSES that hold, the one
 * that is due ahead.
 */
public final class RefusedCallsTest {
    private static final Checks c = new Checks();

    public static void main(String[] args) {
        trays();
        pour();
        thing();
        toldAndSaid();
        spans();
        countAndJoin();
        closeAndSees();
        numberAndFind();
        marks();
        log();
        fullLog();
        standAndGoal();
        plans();
        search();
        emptyArchive();
        c.end();
    }

    /** Each of the calls, on an archive of its own in the state of the world, is refused with the STATUS. */
    private static void refused(String what, World world, int status, String... texts) {
        for (String text : texts) {
            Call call = new Call(text);
            BoxArchive x = world.ours();
            String label = what + ", " + text;
            c.due(label, call.on(x), call.refusal());
            c.due(label + ", its STATUS", x.status(), status);
            world.looksUntouched(c, label, x);
        }
    }

    private static void trays() {
        World w = World.RICH;
        refused("3: 1, the TRAY", w, 1, "tray(-1, 0, 2)", "tray(4, 0, 2)");
        refused("3: 1, the sort", w, 1, "tray(0, -1, 2)", "tray(0, 4, 2)", "tray(3, 4, 2)");
        refused("3: 1, both", w, 1, "tray(4, 4, 2)", "tray(-1, -1, 2)");
        refused("3: 5", w, 5, "tray(0, 2, 41)", "tray(0, 1, 41)", "tray(3, 0, 41)");
        refused("3: 6", w, 6, "tray(0, 2, -1)", "tray(0, 1, -1)", "tray(3, 0, -1)");
        refused("3: 1 and 5", w, 1, "tray(4, 0, 41)", "tray(0, 4, 41)");
        refused("3: 1 and 6", w, 1, "tray(-1, 0, -1)", "tray(0, -1, -1)");

        refused("4: 1", w, 1, "write(-1, 0, 9)", "write(4, 0, 9)");
        refused("4: 3", w, 3, "write(3, 0, 9)");
        refused("4: 4", w, 4, "write(0, -1, 9)", "write(0, 6, 9)", "write(1, 3, 9)", "write(2, 4, 9)");
        refused("4: 1 and a place that no TRAY has", w, 1, "write(4, 40, 9)", "write(-1, -1, 9)");
        refused("4: 3 and a place that no TRAY has", w, 3, "write(3, 40, 9)", "write(3, -1, 9)");

        refused("5: 1", w, 1, "read(-1, 0)", "read(4, 0)");
        refused("5: 3", w, 3, "read(3, 0)");
        refused("5: 4", w, 4, "read(0, -1)", "read(0, 6)", "read(1, 3)", "read(2, 4)");
        refused("5: 1 and a place that no TRAY has", w, 1, "read(4, 40)", "read(-1, -1)");
        refused("5: 3 and a place that no TRAY has", w, 3, "read(3, 40)", "read(3, -1)");
    }

    /** "1, 3 (either), 11, 6, 4, asked in this order". */
    private static void pour() {
        World w = World.RICH;
        refused("6: 1, from", w, 1, "pour(-1, 0, 0, 0, 1)", "pour(4, 0, 0, 0, 1)");
        refused("6: 1, to", w, 1, "pour(0, 0, -1, 0, 1)", "pour(0, 0, 4, 0, 1)");
        refused("6: 3, either", w, 3, "pour(3, 0, 0, 0, 1)", "pour(0, 0, 3, 0, 1)", "pour(3, 0, 3, 0, 1)");
        refused("6: 11", w, 11, "pour(0, 0, 1, 0, 1)", "pour(1, 0, 2, 0, 1)", "pour(1, 0, 2, 0, 0)");
        refused("6: 6", w, 6, "pour(0, 0, 2, 0, -1)", "pour(0, 1, 0, 1, -1)");
        refused("6: 4, i", w, 4, "pour(0, -1, 2, 0, 1)", "pour(0, 6, 2, 0, 1)", "pour(0, 3, 2, 0, 4)");
        refused("6: 4, j", w, 4, "pour(0, 0, 2, -1, 1)", "pour(0, 0, 2, 4, 1)", "pour(0, 0, 2, 1, 4)");
        refused("6: 4, many", w, 4, "pour(0, 0, 2, 0, 5)", "pour(2, 0, 0, 0, 5)", "pour(0, 0, 0, 0, 7)");
        refused("6: 4, both", w, 4, "pour(0, 6, 2, 4, 1)", "pour(0, -1, 2, -1, 1)");
        refused("6: 1 and 3", w, 1, "pour(4, 0, 3, 0, 1)", "pour(3, 0, 4, 0, 1)");
        refused("6: 1 and 6", w, 1, "pour(4, 0, 0, 0, -1)", "pour(0, 0, -1, 0, -1)");
        refused("6: 1 and 4", w, 1, "pour(4, 0, 0, 9, 1)", "pour(0, 9, -1, 0, 1)");
        refused("6: 3 and 6", w, 3, "pour(3, 0, 0, 0, -1)", "pour(0, 0, 3, 0, -1)");
        refused("6: 3 and 4", w, 3, "pour(3, 0, 0, 9, 1)", "pour(0, 9, 3, 0, 1)");
        refused("6: 11 and 6", w, 11, "pour(0, 0, 1, 0, -1)");
        refused("6: 11 and 4", w, 11, "pour(0, 9, 1, 0, 1)", "pour(0, 0, 1, -1, 1)");
        refused("6: 11, 6 and 4", w, 11, "pour(0, 9, 1, 9, -1)");
        refused("6: 6 and 4", w, 6, "pour(0, -1, 2, 0, -1)", "pour(0, 0, 2, 9, -1)", "pour(0, 9, 0, 9, -2)");
        refused("6: 1, 3, 6 and 4", w, 1, "pour(3, 9, 4, 9, -1)");
    }

    /** "asked as 5, 2, 8, 7". */
    private static void thing() {
        World w = World.RICH;
        refused("7: 5", w, 5, "thing(-1, -1)", "thing(4, -1)", "thing(4, 2)", "thing(-1, 0)");
        refused("7: 2, NONE for a SERIES alone", w, 2, "thing(1, -1)", "thing(2, -1)", "thing(3, -1)");
        refused("7: 2, a SERIES is in none", w, 2, "thing(0, 0)", "thing(0, 3)", "thing(0, 12)", "thing(0, -2)");
        refused("7: 2, no such THING", w, 2, "thing(1, 12)", "thing(2, 12)", "thing(3, 12)", "thing(1, -2)");
        refused("7: 8, a BOX", w, 8, "thing(1, 1)", "thing(1, 2)", "thing(1, 3)");
        refused("7: 8, a FOLDER", w, 8, "thing(2, 0)", "thing(2, 2)", "thing(2, 3)");
        refused("7: 8, an ITEM", w, 8, "thing(3, 0)", "thing(3, 3)");
        refused("7: 5 and 2", w, 5, "thing(4, 12)", "thing(-1, -2)");
        World full = World.FULL_ARCHIVE;
        refused("7: 7", full, 7, "thing(0, -1)", "thing(1, 0)", "thing(2, 1)", "thing(3, 1)", "thing(3, 2)");
        refused("7: 5 and 7", full, 5, "thing(4, -1)", "thing(-1, 0)");
        refused("7: 2 and 7", full, 2, "thing(1, -1)", "thing(3, 80)", "thing(0, 0)");
        refused("7: 8 and 7", full, 8, "thing(1, 1)", "thing(2, 0)", "thing(3, 79)");
        refused("7: 5, 2 and 7", full, 5, "thing(4, 80)");
    }

    private static void toldAndSaid() {
        World w = World.RICH;
        refused("8: 2", w, 2, "told(-1, 0)", "told(12, 0)");
        refused("8: 5", w, 5, "told(0, -1)", "told(0, 7)");
        refused("8: 2 and 5", w, 2, "told(12, 7)", "told(-1, -1)");

        refused("9: 2, the THING", w, 2, "say(-1, 0, 1)", "say(12, 0, 1)", "say(12, 0, -1)");
        refused("9: 2, the FIELD", w, 2, "say(0, -1, 1)", "say(0, 6, 1)", "say(0, 6, -1)");
        refused("9: 5", w, 5, "say(0, 0, -2)", "say(0, 0, 1000)");
        refused("9: 2 and 5", w, 2, "say(12, 0, 1000)", "say(0, 6, -2)", "say(-1, -1, -2)");

        refused("10: 2, the THING", w, 2, "has(-1, 0)", "has(12, 0)");
        refused("10: 2, the FIELD", w, 2, "has(0, -1)", "has(0, 6)");
        refused("10: 9", w, 9, "has(3, 1)", "has(0, 4)", "has(9, 0)", "has(10, 5)");
        refused("10: 2, and nothing is SAID", w, 2, "has(9, 6)", "has(12, 1)");
    }

    private static void spans() {
        World w = World.RICH;
        refused("11: 2", w, 2, "span(-1, 0, 1)", "span(12, 0, 1)");
        refused("11: 5, from", w, 5, "span(0, -1, 5)", "span(3, -1, 20)", "span(0, 100001, 100001)");
        refused("11: 5, to", w, 5, "span(0, 5, 100001)", "span(3, 10, 100001)", "span(0, -1, -1)");
        refused("11: 5, from above to", w, 5, "span(0, 6, 5)", "span(3, 1, 0)", "span(0, 100000, 99999)");
        refused("11: 2 and 5", w, 2, "span(12, 6, 5)", "span(-1, -1, 0)", "span(12, 0, 100001)");

        refused("12: 2", w, 2, "noSpan(-1)", "noSpan(12)");
        refused("12: 9", w, 9, "noSpan(0)", "noSpan(2)", "noSpan(4)");

        refused("13: 2", w, 2, "held(-1, false)", "held(-1, true)", "held(12, false)", "held(12, true)");
        refused("13: 9", w, 9, "held(4, false)", "held(4, true)", "held(6, false)", "held(9, true)");

        refused("14: 5", w, 5, "quarrel(-1)", "quarrel(-2147483648)");
        refused("14: 9", w, 9, "quarrel(1)", "quarrel(2147483647)");
        refused("14: 5, and there is no QUARREL", World.FULL_LOG, 5, "quarrel(-1)");
        refused("14: 9, there is no QUARREL", World.FULL_LOG, 9, "quarrel(0)");
    }

    private static void countAndJoin() {
        World w = World.RICH;
        refused("15: 2", w, 2, "count(-1, 1)", "count(12, 1)", "count(12, -1)");
        refused("15: 5", w, 5, "count(2, -2)", "count(2, 1000)");
        refused("15: 8", w, 8, "count(0, 1)", "count(1, 1)", "count(3, 1)", "count(3, -1)");
        refused("15: 2 and 5", w, 2, "count(12, 1000)", "count(-1, -2)");
        refused("15: 5 and 8", w, 5, "count(1, 1000)", "count(3, -2)");

        refused("16: 2", w, 2, "join(-1, 3)", "join(3, -1)", "join(12, 4)", "join(4, 12)", "join(-1, 12)");
        refused("16: 5, like ones", w, 5, "join(4, 4)");
        refused("16: 8", w, 8, "join(3, 2)", "join(2, 3)", "join(1, 6)", "join(0, 5)");
        refused("16: 10", w, 10, "join(3, 7)", "join(7, 3)");
        refused("16: 10, over others", w.and("join(7, 5)", "join(4, 5)"), 10, "join(3, 5)", "join(4, 3)", "join(7, 4)");
        refused("16: 2 and 5", w, 2, "join(12, 12)", "join(-1, -1)");
        refused("16: 2 and 8", w, 2, "join(1, 12)", "join(-1, 0)");
        refused("16: 5 and 8", w, 5, "join(1, 1)", "join(0, 0)", "join(2, 2)");
        refused("16: 5 and 10, one PIECE with itself", w, 5, "join(3, 3)", "join(7, 7)");
    }

    private static void closeAndSees() {
        World w = World.RICH;
        refused("17: 2", w, 2, "close(-1, 1, 0)", "close(12, 1, 0)", "close(12, -1, 0)");
        refused("17: 5, the day", w, 5, "close(1, -2, 0)", "close(1, 200001, 0)");
        refused("17: 5, the PERSONS", w, 5, "close(1, 60, -1)", "close(1, 60, 65536)");
        refused("17: 5, both", w, 5, "close(1, 200001, 65536)");
        refused("17: 5, the PERSONS without a day", w, 5, "close(1, -1, 65536)", "close(1, -1, -1)");
        refused("17: 2 and 5", w, 2, "close(12, 200001, 0)", "close(-1, 1, 65536)");

        refused("18: 2, the THING", w, 2, "sees(-1, 0, 0)", "sees(12, 0, 0)");
        refused("18: 2, the PERSON", w, 2, "sees(0, -1, 0)", "sees(0, 16, 0)", "sees(0, 32, 0)");
        refused("18: 5", w, 5, "sees(0, 0, -1)", "sees(0, 0, 300001)", "sees(3, 0, 300001)");
        refused("18: 2 and 5", w, 2, "sees(12, 0, 300001)", "sees(0, 16, -1)");
    }

    private static void numberAndFind() {
        World w = World.RICH;
        refused("19: 2, the THING", w, 2, "number(-1, 0, 0, 0)", "number(12, 0, 0, 0)");
        refused("19: 2, the PERSON", w, 2, "number(0, 0, -1, 0)", "number(0, 3, 16, 0)");
        refused("19: 5, the LEVEL", w, 5, "number(0, -1, 0, 0)", "number(0, 4, 0, 0)");
        refused("19: 5, the day", w, 5, "number(0, 0, 0, -1)", "number(0, 3, 0, 300001)");
        refused("19: 2 and 5", w, 2, "number(12, 4, 0, 0)", "number(0, 4, 16, 0)", "number(0, 0, -1, -1)");

        refused("20: 1", w, 1, "find(0, 5, 0, 0, -1)", "find(0, 5, 0, 0, 4)");
        refused("20: 2, the FIELD", w, 2, "find(-1, 5, 0, 60, 0)", "find(6, 5, 0, 60, 0)");
        refused("20: 2, the PERSON", w, 2, "find(0, 5, -1, 60, 0)", "find(0, 5, 16, 60, 0)");
        refused("20: 3", w, 3, "find(0, 5, 0, 60, 3)");
        refused("20: 5, the number", w, 5, "find(0, -1, 0, 60, 0)", "find(0, 1000, 0, 60, 0)", "find(1, -1, 0, 60, 0)");
        refused("20: 5, the day", w, 5, "find(0, 5, 0, -1, 0)", "find(0, 5, 0, 300001, 0)");
        refused("20: 1 and 2", w, 1, "find(6, 5, 0, 0, 4)", "find(0, 5, 16, 0, -1)");
        refused("20: 1 and 5", w, 1, "find(0, 1000, 0, 0, 4)", "find(0, 5, 0, -1, 4)");
        refused("20: 2 and 3", w, 2, "find(6, 5, 0, 0, 3)", "find(0, 5, 16, 0, 3)");
        refused("20: 2 and 5", w, 2, "find(6, 1000, 0, 0, 0)", "find(0, 5, 16, -1, 0)");
        refused("20: 3 and 5", w, 3, "find(0, 1000, 0, 0, 3)", "find(0, 5, 0, 300001, 3)");
        refused("20: 1, 2 and 5", w, 1, "find(6, 1000, 16, -1, 4)");
    }

    private static void marks() {
        World w = World.RICH;
        refused("21: 2", w, 2, "mark(-1, 1)", "mark(12, 1)", "mark(12, -1)");
        refused("21: 5", w, 5, "mark(3, -2)", "mark(3, 10000)");
        refused("21: 10", w, 10, "mark(3, 20)", "mark(1, 9999)", "mark(4, 35)");
        refused("21: 2 and 5", w, 2, "mark(12, 10000)", "mark(-1, -2)");
        refused("21: 2 and 10", w, 2, "mark(12, 20)", "mark(-1, 50)");

        refused("22: 2", w, 2, "walk(0, -1, 0)", "walk(0, 16, 0)");
        refused("22: 5, k", w, 5, "walk(-1, 0, 0)");
        refused("22: 5, the day", w, 5, "walk(0, 0, -1)", "walk(0, 0, 300001)");
        refused("22: 9", w, 9, "walk(4, 0, 100)", "walk(2, 0, 49)", "walk(2147483647, 0, 0)");
        refused("22: 2 and 5", w, 2, "walk(-1, 16, 0)", "walk(0, -1, 300001)");
        refused("22: 2 and 9", w, 2, "walk(9, 16, 0)");
        refused("22: 5 and 9", w, 5, "walk(9, 0, 300001)", "walk(9, 0, -1)");
        refused("22: 9, no WALK", World.FULL_LOG, 9, "walk(0, 0, 0)");
    }

    private static void log() {
        World w = World.RICH;
        refused("23: 2, the THING", w, 2, "fetch(-1, 0, 20)", "fetch(12, 0, 20)");
        refused("23: 2, the PERSON", w, 2, "fetch(4, -1, 20)", "fetch(4, 16, 20)");
        refused("23: 5", w, 5, "fetch(4, 0, -1)", "fetch(4, 0, 100001)");
        refused("23: 5, a tick that is gone", w, 5, "fetch(4, 0, 13)", "fetch(4, 0, 0)", "fetch(3, 0, 13)");
        refused("23: 10", w, 10, "fetch(1, 0, 20)", "fetch(1, 4, 14)", "fetch(1, 0, 100000)");
        refused("23: 2 and 5", w, 2, "fetch(12, 0, 13)", "fetch(4, 16, 100001)");
        refused("23: 2 and 10", w, 2, "fetch(1, 16, 20)");
        refused("23: 5 and 10", w, 5, "fetch(1, 0, 13)", "fetch(1, 0, 100001)");

        refused("24: 2", w, 2, "back(-1, 20)", "back(12, 20)");
        refused("24: 5", w, 5, "back(1, -1)", "back(1, 100001)");
        refused("24: 5, a tick that is gone", w, 5, "back(1, 13)", "back(1, 0)");
        refused("24: 10, BACK already", w, 10, "back(3, 14)", "back(3, 100000)");
        refused("24: 10, out by another one's entry", w, 10, "back(2, 14)", "back(5, 20)");
        refused("24: 10, never out", w, 10, "back(9, 14)");
        refused("24: 2 and 5", w, 2, "back(12, 13)", "back(-1, 100001)");
        refused("24: 5 and 10", w, 5, "back(3, 13)", "back(2, -1)");

        refused("25: 2", w, 2, "where(-1, 0)", "where(12, 0)");
        refused("25: 5", w, 5, "where(0, -1)", "where(0, 100001)", "where(1, 100001)");
        refused("25: 2 and 5", w, 2, "where(12, -1)", "where(-1, 100001)");
    }

    /** The latest tick is 9; 0 and 1 are out. */
    private static void fullLog() {
        World w = World.FULL_LOG;
        refused("23: 7", w, 7, "fetch(2, 0, 9)", "fetch(3, 0, 100000)");
        refused("23: 7 and 10", w, 7, "fetch(0, 0, 9)", "fetch(1, 0, 100000)");
        refused("23: 5 and 7", w, 5, "fetch(2, 0, 8)", "fetch(2, 0, 100001)", "fetch(2, 0, -1)");
        refused("23: 2 and 7", w, 2, "fetch(4, 0, 9)", "fetch(2, 16, 9)");
        refused("23: 2, 5, 7 and 10", w, 2, "fetch(0, 16, 8)");
        refused("23: 5, 7 and 10", w, 5, "fetch(0, 0, 8)");

        refused("24: 7", w, 7, "back(0, 9)", "back(1, 100000)");
        refused("24: 7 and 10", w, 7, "back(2, 9)", "back(3, 100000)");
        refused("24: 5 and 7", w, 5, "back(0, 8)", "back(0, 100001)", "back(0, -1)");
        refused("24: 2 and 7", w, 2, "back(4, 9)", "back(-1, 9)");
        refused("24: 5, 7 and 10", w, 5, "back(2, 8)");
    }

    private static void standAndGoal() {
        World w = World.RICH;
        for (String call : new String[] {"26: stand", "27: goal"}) {
            String promise = call.substring(0, 4);
            String name = call.substring(4);
            refused(promise + "2, the THING", w, 2, name + "(-1, 3)", name + "(12, 3)", name + "(12, -1)");
            refused(promise + "2, the PLACE", w, 2, name + "(1, -2)", name + "(1, 40)", name + "(11, 40)");
            refused(promise + "8", w, 8, name + "(0, 3)", name + "(2, 3)", name + "(3, 3)", name + "(9, -1)");
            refused(promise + "10", w, 10, name + "(11, 0)", name + "(11, 1)", name + "(10, 1)");
            refused(promise + "2 and 8", w, 2, name + "(0, 40)", name + "(3, -2)");
            refused(promise + "2 and 10", w, 2, name + "(12, 1)", name + "(-1, 0)");
            refused(promise + "8 and 10", w, 8, name + "(0, 1)", name + "(3, 0)");
        }
        refused("26: 10, another one is there", w, 10, "stand(1, 1)", "stand(1, 5)", "stand(6, 0)");
        refused("27: 10, of one that stands in none", w, 10, "goal(1, 39)", "goal(10, 39)");
        refused("26: 10, all are full", World.FULL_SHELVES, 10, "stand(41, 0)", "stand(41, 39)", "stand(1, 39)");
    }

    /** "12; 9; 5: what; in this order". */
    private static void plans() {
        for (World w : new World[] {World.BLOCKED, World.FULL_SHELVES}) {
            refused("28: 12", w, 12, "plan()");
            refused("29: 12", w, 12, "carry(0, 0)", "carry(0, 1)", "carry(0, 2)");
            refused("29: 12 and 9", w, 12, "carry(-1, 0)", "carry(80, 0)");
            refused("29: 12 and 5", w, 12, "carry(0, -1)", "carry(0, 3)");
            refused("29: 12, 9 and 5", w, 12, "carry(-1, 3)", "carry(80, -1)");
            refused("30: 12", w, 12, "carried()");
        }
        World w = World.RICH;
        refused("29: 9", w, 9, "carry(-1, 0)", "carry(4, 0)", "carry(4, 1)", "carry(4, 2)");
        refused("29: 5", w, 5, "carry(0, -1)", "carry(0, 3)", "carry(3, 3)");
        refused("29: 9 and 5", w, 9, "carry(4, 3)", "carry(-1, -1)");
        refused("29: 9, nothing to carry", World.FULL_LOG, 9, "carry(0, 0)", "carry(0, 3)");
    }

    /** "1; 3; 5: so many; 4; 5: a number; 9: k; in this order"; TRAY 0 has six numbers, TRAY 2 four, one of them 1000. */
    private static void search() {
        World w = World.RICH;
        refused("31: 1", w, 1, "search(-1, 1, 0)", "search(4, 1, 0)");
        refused("31: 3", w, 3, "search(3, 1, 0)");
        refused("31: 5, so many", w, 5, "search(0, 0, 0)", "search(0, -1, 0)", "search(0, 21, 0)");
        refused("31: 4", w, 4, "search(0, 4, 0)", "search(0, 20, 0)", "search(1, 2, 0)");
        refused("31: 5, a WEIGHT", w, 5, "search(2, 1, 0)", "search(2, 2, 0)", "search(1, 1, 0)");
        refused("31: 9", w, 9, "search(0, 3, 3)", "search(0, 3, -1)", "search(0, 1, 1)");
        refused("31: 1 and 5", w, 1, "search(4, 0, 0)", "search(-1, 21, 0)");
        refused("31: 1 and 9", w, 1, "search(4, 1, 1)");
        refused("31: 3 and 5", w, 3, "search(3, 0, 0)", "search(3, 21, 0)");
        refused("31: 3 and 9", w, 3, "search(3, 1, 1)", "search(3, 1, -1)");
        refused("31: 5, so many, and 4", w, 5, "search(0, 21, 0)", "search(2, 21, 0)");
        refused("31: 5, so many, and 9", w, 5, "search(0, 0, 0)", "search(0, 21, -1)", "search(0, 0, -1)");
        refused("31: 4 and 5, a number", w, 4, "search(2, 3, 0)", "search(1, 20, 0)");
        refused("31: 4 and 9", w, 4, "search(0, 4, 4)", "search(0, 20, -1)");
        refused("31: 4, 5 and 9", w, 4, "search(2, 3, 3)");
        refused("31: 5, a number, and 9", w, 5, "search(2, 1, 1)", "search(2, 2, -1)");
        World cost = w.and("write(0, 5, 0)");
        refused("31: 5, a COST", cost, 5, "search(0, 3, 0)", "search(0, 3, 3)");
        refused("31: 4 and 5, a COST", cost, 4, "search(0, 4, 0)");
    }

    private static void emptyArchive() {
        World w = World.EMPTY;
        refused("7: 2, no THINGS", w, 2, "thing(1, 0)", "thing(0, 0)", "thing(3, -1)");
        refused("2, no THINGS", w, 2, "told(0, 0)", "say(0, 0, 0)", "has(0, 0)", "span(0, 0, 0)", "noSpan(0)",
            "held(0, true)", "count(0, 0)", "join(0, 0)", "join(0, 1)", "close(0, 0, 0)", "sees(0, 0, 0)",
            "number(0, 0, 0, 0)", "mark(0, 0)", "fetch(0, 0, 0)", "back(0, 0)", "where(0, 0)", "stand(0, 0)",
            "goal(0, 0)");
        refused("3, no TRAYS", w, 3, "write(0, 0, 0)", "read(3, 0)", "pour(0, 0, 0, 0, 0)", "find(0, 0, 0, 0, 0)",
            "search(0, 1, 0)");
        refused("9, there is none", w, 9, "quarrel(0)", "walk(0, 0, 0)", "carry(0, 0)");
    }
}
