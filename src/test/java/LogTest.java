/** Promises 23 to 25: fetch, back, where. */
public final class LogTest extends SmallArchive {
    private static final Checks c = new Checks();

    public static void main(String[] args) {
        ordinary();
        nearestInLine();
        severalAtOneTick();
        fetchRefused();
        backRefused();
        whereRefused();
        fullLog();
        c.end();
    }

    private static void ordinary() {
        BoxArchive x = small();
        c.gives("25: at its place", x, x.where(ITEM, 0), -1);
        c.does("23: FETCHED", x, x.fetch(ITEM, 15, 10));
        c.gives("25: ahead of it", x, x.where(ITEM, 9), -1);
        c.gives("25: at it", x, x.where(ITEM, 10), 15);
        c.gives("25: the last tick", x, x.where(ITEM, 100_000), 15);
        c.gives("25: the whole is at its place", x, x.where(FOLDER, 10), -1);
        c.does("24: BACK", x, x.back(ITEM, 20));
        c.gives("25: ahead of BACK", x, x.where(ITEM, 19), 15);
        c.gives("25: at BACK", x, x.where(ITEM, 20), -1);
        c.does("23: FETCHED again", x, x.fetch(ITEM, 0, 100_000));
        c.gives("25: PERSON 0", x, x.where(ITEM, 100_000), 0);
        c.gives("25: between", x, x.where(ITEM, 99_999), -1);
    }

    private static void nearestInLine() {
        BoxArchive x = small();
        x.fetch(SERIES, 1, 1);
        x.fetch(ITEM, 2, 2);
        x.fetch(BOX, 3, 3);
        c.gives("25: by its own entry, though older", x, x.where(ITEM, 3), 2);
        c.gives("25: by the nearest above", x, x.where(FOLDER, 3), 3);
        c.gives("25: earlier by the SERIES", x, x.where(LOOSE_ITEM, 2), 1);
        c.does("24: the part BACK", x, x.back(ITEM, 4));
        c.gives("25: it is with the BOX", x, x.where(ITEM, 4), 3);
        x.back(BOX, 5);
        c.gives("25: it is with the SERIES", x, x.where(ITEM, 5), 1);
        x.back(SERIES, 6);
        c.gives("25: it is at its place", x, x.where(ITEM, 6), -1);
    }

    private static void severalAtOneTick() {
        BoxArchive x = small();
        x.fetch(ITEM, 1, 7);
        x.back(ITEM, 7);
        c.gives("25: the latest at the tick is BACK", x, x.where(ITEM, 7), -1);
        c.does("23: at the same tick", x, x.fetch(ITEM, 2, 7));
        c.gives("25: the latest at the tick", x, x.where(ITEM, 7), 2);
    }

    private static void fetchRefused() {
        BoxArchive x = small();
        x.fetch(BOX, 1, 50);
        c.refuses("23: no such THING", x, x.fetch(NO_THING, 0, 50), 2);
        c.refuses("23: no such PERSON", x, x.fetch(ITEM, 16, 50), 2);
        c.refuses("23: no such PERSON, ahead of 5", x, x.fetch(ITEM, -1, -1), 2);
        c.refuses("23: a tick that is gone", x, x.fetch(ITEM, 0, 49), 5);
        c.refuses("23: a tick too late", x, x.fetch(ITEM, 0, 100_001), 5);
        c.refuses("23: a tick below 0", x, x.fetch(ITEM, 0, -1), 5);
        c.refuses("23: it is out", x, x.fetch(BOX, 2, 50), 10);
        c.refuses("23: it is out, 5 ahead", x, x.fetch(BOX, 2, 49), 5);
        c.gives("23: refused ones change nothing", x, x.where(BOX, 100_000), 1);
        c.does("23: out by another's entry alone", x, x.fetch(ITEM, 2, 50));
        BoxArchive y = small();
        c.refuses("23: a tick below 0 in an empty LOG", y, y.fetch(ITEM, 0, -1), 5);
        y.fetch(ITEM, 0, 30);
        y.fetch(ITEM, 0, 60);
        c.does("23: a refused one's tick doesn't count", y, y.back(ITEM, 30));
    }

    private static void backRefused() {
        BoxArchive x = small();
        c.refuses("24: an empty LOG", x, x.back(BOX, 0), 10);
        x.fetch(BOX, 1, 50);
        c.refuses("24: no such THING", x, x.back(NO_THING, 50), 2);
        c.refuses("24: no such THING, ahead of 5", x, x.back(-1, 49), 2);
        c.refuses("24: a tick that is gone", x, x.back(BOX, 49), 5);
        c.refuses("24: a tick too late", x, x.back(BOX, 100_001), 5);
        c.refuses("24: out by another's entry alone", x, x.back(ITEM, 50), 10);
        c.refuses("24: not out, 5 ahead", x, x.back(ITEM, 49), 5);
        c.gives("24: refused ones change nothing", x, x.where(ITEM, 50), 1);
        c.does("24: BACK", x, x.back(BOX, 50));
        c.refuses("24: BACK already", x, x.back(BOX, 50), 10);
    }

    private static void whereRefused() {
        BoxArchive x = small();
        c.refuses("25: no such THING", x, x.where(NO_THING, 0), 2);
        c.refuses("25: no such THING, ahead of 5", x, x.where(-1, -1), 2);
        c.refuses("25: a tick below 0", x, x.where(0, -1), 5);
        c.refuses("25: a tick too late", x, x.where(0, 100_001), 5);
    }

    private static void fullLog() {
        BoxArchive x = small();
        for (int i = 0; i < 100; i++) {
            c.does("23: entry " + 2 * i, x, x.fetch(ITEM, i % 16, 2 * i));
            c.does("24: entry " + (2 * i + 1), x, i == 99 ? x.fetch(BOX, 5, 199) : x.back(ITEM, 2 * i + 1));
        }
        c.refuses("23: one too many", x, x.fetch(SERIES, 0, 199), 7);
        c.refuses("23: one too many, ahead of 10", x, x.fetch(ITEM, 0, 199), 7);
        c.refuses("23: one too many, behind 5", x, x.fetch(SERIES, 0, 198), 5);
        c.refuses("23: one too many, behind 2", x, x.fetch(SERIES, 16, 199), 2);
        c.refuses("24: one too many", x, x.back(ITEM, 199), 7);
        c.refuses("24: one too many, ahead of 10", x, x.back(SERIES, 199), 7);
        c.refuses("24: one too many, behind 5", x, x.back(ITEM, 198), 5);
        c.gives("25: the first entry", x, x.where(ITEM, 0), 0);
        c.gives("25: an entry between", x, x.where(ITEM, 34), 1);
        c.gives("25: the last but one", x, x.where(ITEM, 198), 3);
        c.gives("25: the last", x, x.where(LOOSE_ITEM, 199), 5);
    }
}
