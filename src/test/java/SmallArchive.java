/** An archive with a THING of each LEVEL, for the tests that extend this. */
abstract class SmallArchive {
    static final int SERIES = 0;
    static final int BOX = 1;
    static final int FOLDER = 2;
    static final int ITEM = 3;
    /** An ITEM right in the BOX. */
    static final int LOOSE_ITEM = 4;
    /** How many THINGS there are, and so the number of one that isn't there. */
    static final int NO_THING = 5;

    static BoxArchive small() {
        BoxArchive x = new BoxArchive();
        x.thing(0, -1);
        x.thing(1, SERIES);
        x.thing(2, BOX);
        x.thing(3, FOLDER);
        x.thing(3, BOX);
        return x;
    }
}
