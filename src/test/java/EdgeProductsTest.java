/**
 * Every call with every choice of arguments from the edges of their ranges, in several states, against PlainArchive:
 * so every set of STATUSES that can hold at once does so somewhere. Behind each call the two archives are looked at,
 * and behind a refused one they have to look as if there had been no call.
 */
public final class EdgeProductsTest {
    private static final String INT_EDGES = "-2147483648 2147483647 ";
    private static final String TRAYS = INT_EDGES + "-1 0 1 2 3 4";
    private static final String FEW_TRAYS = "-1 0 1 2 3 4";
    private static final String TRAY_PLACES = INT_EDGES + "-1 0 2 3 4 5 6";
    private static final String FEW_PLACES = "2147483647 -1 0 2 4 6";
    private static final String THINGS = INT_EDGES + "-1 0 1 2 3 4 6 7 11 12 79 80";
    private static final String FEW_THINGS = "-1 0 3 7 12";
    private static final String LEVELS = INT_EDGES + "-1 0 1 2 3 4";
    private static final String FIELDS = INT_EDGES + "-1 0 1 5 6";
    private static final String NUMBERS = INT_EDGES + "-2 -1 0 5 999 1000";
    private static final String PERSONS = INT_EDGES + "-1 0 1 15 16";
    private static final String FEW_PERSONS = "-1 0 15 16";
    private static final String SPAN_DAYS = INT_EDGES + "-1 0 1 100000 100001";
    private static final String CLOSED_DAYS = INT_EDGES + "-2 -1 0 200000 200001";
    private static final String DAYS = INT_EDGES + "-1 0 49 50 300000 300001";
    private static final String FEW_DAYS = "-1 0 50 300000 300001";
    private static final String TICKS = INT_EDGES + "-1 0 8 9 13 14 100000 100001";
    private static final String PLACES = INT_EDGES + "-2 -1 0 1 2 38 39 40";
    private static final String ORDER = INT_EDGES + "-1 0 1 2 3 4";
    private static final String TRUTHS = "false true";

    /** A name, then for each argument the edges that it takes. */
    private static final String[][] CALLS_OF_TRAYS = {
        {"tray", TRAYS, TRAYS, INT_EDGES + "-1 0 1 40 41"},
        {"write", TRAYS, TRAY_PLACES, "0 128 -9223372036854775808 9223372036854775807"},
        {"read", TRAYS, TRAY_PLACES},
        {"pour", FEW_TRAYS, FEW_PLACES, FEW_TRAYS, FEW_PLACES, INT_EDGES + "-1 0 1 4 5 6 7"},
        {"search", TRAYS, INT_EDGES + "-1 0 1 2 3 4 20 21", INT_EDGES + "-1 0 1 2 3"},
    };
    private static final String[][] CALLS = {
        {"thing", LEVELS, THINGS},
        {"told", THINGS, INT_EDGES + "-1 0 1 2 3 4 5 6 7"},
        {"say", THINGS, FIELDS, NUMBERS},
        {"has", THINGS, FIELDS},
        {"span", THINGS, SPAN_DAYS, SPAN_DAYS},
        {"noSpan", THINGS},
        {"held", THINGS, TRUTHS},
        {"quarrel", ORDER},
        {"count", THINGS, NUMBERS},
        {"join", THINGS, THINGS},
        {"close", THINGS, CLOSED_DAYS, INT_EDGES + "-1 0 1 65535 65536"},
        {"sees", THINGS, PERSONS, DAYS},
        {"number", FEW_THINGS, LEVELS, FEW_PERSONS, FEW_DAYS},
        {"find", "-1 0 5 6", "-1 0 5 999 1000", FEW_PERSONS, FEW_DAYS, FEW_TRAYS},
        {"mark", THINGS, INT_EDGES + "-2 -1 0 20 9999 10000"},
        {"walk", ORDER, PERSONS, DAYS},
        {"fetch", THINGS, PERSONS, TICKS},
        {"back", THINGS, TICKS},
        {"where", THINGS, TICKS},
        {"stand", THINGS, PLACES},
        {"goal", THINGS, PLACES},
        {"plan"},
        {"carry", ORDER, INT_EDGES + "-1 0 1 2 3"},
        {"carried"},
    };

    private static final Checks c = new Checks();

    private final World world;
    private int refused = 0;
    private int allowed = 0;

    private EdgeProductsTest(World world) {
        this.world = world;
    }

    public static void main(String[] args) {
        for (World world : new World[] {World.EMPTY, World.RICH}) {
            new EdgeProductsTest(world).make(CALLS_OF_TRAYS);
        }
        for (World world : new World[] {
            World.EMPTY, World.RICH, World.BLOCKED, World.FULL_SHELVES, World.FULL_ARCHIVE, World.FULL_LOG}) {
            new EdgeProductsTest(world).make(CALLS);
        }
        c.end();
    }

    private void make(String[][] calls) {
        for (String[] call : calls) {
            choose(call, 1, call[0] + "(");
        }
        c.due("calls were refused", refused > 1_000 ? 1 : 0, 1);
        c.due("calls were allowed", allowed > 0 ? 1 : 0, 1);
    }

    private void choose(String[] call, int at, String text) {
        if (at == call.length) {
            check(new Call(text + ")"));
            return;
        }
        for (String edge : call[at].split(" ")) {
            choose(call, at + 1, text + (at == 1 ? "" : ", ") + edge);
        }
    }

    private void check(Call call) {
        BoxArchive x = world.ours();
        PlainArchive y = world.plain();
        c.due(call.text, call.on(x), call.on(y));
        int status = x.status();
        c.due(call.text + ", its STATUS", status, y.status());
        if (status == 0) {
            allowed++;
            world.looksAlike(c, call.text, x, y);
        } else {
            refused++;
            world.looksUntouched(c, call.text, x);
        }
    }
}
