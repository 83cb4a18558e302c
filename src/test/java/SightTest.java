/** Promises 17 to 22: close, sees, number, find, mark, walk. */
public final class SightTest extends SmallArchive {
    private static final int OTHER_BOX = NO_THING;
    private static final int OTHER_ITEM = NO_THING + 1;
    private static final int NO_THING_EITHER = NO_THING + 2;

    private static final Checks c = new Checks();

    public static void main(String[] args) {
        close();
        everyPersonAlone();
        dayByDay();
        closeInLine();
        closeRefused();
        seesRefused();
        numberByLevel();
        numberOfPieces();
        numberOfCounts();
        numberRefused();
        find();
        findFillsTheTray();
        findFillsAsManyPlacesAsThereAre();
        findRefused();
        mark();
        walk();
        walkRefused();
        fullArchive();
        c.end();
    }

    private static BoxArchive twoBoxes() {
        BoxArchive x = small();
        x.thing(1, SERIES);
        x.thing(3, OTHER_BOX);
        return x;
    }

    private static void close() {
        BoxArchive x = twoBoxes();
        c.gives("18: not CLOSED", x, x.sees(ITEM, 15, 0), 1);
        c.does("17: but for some", x, x.close(ITEM, 100, 1 | 1 << 15));
        for (int person = 0; person < 16; person++) {
            int free = person == 0 || person == 15 ? 1 : 0;
            c.gives("18: PERSON " + person, x, x.sees(ITEM, person, 99), free);
            c.gives("18: until the day", x, x.sees(ITEM, person, 100), 1);
        }
        c.does("17: until the last day, for all", x, x.close(ITEM, 200_000, 0));
        c.gives("18: anew", x, x.sees(ITEM, 0, 199_999), 0);
        c.gives("18: the last day", x, x.sees(ITEM, 0, 300_000), 1);
        c.does("17: but for all", x, x.close(ITEM, 200_000, 65_535));
        c.gives("18: but for all", x, x.sees(ITEM, 9, 0), 1);
        x.close(ITEM, 5, 0);
        c.does("17: not any more", x, x.close(ITEM, -1, 0));
        c.gives("18: not any more", x, x.sees(ITEM, 0, 0), 1);
        c.does("17: until day 0", x, x.close(ITEM, 0, 0));
        c.gives("18: day 0 is not behind it", x, x.sees(ITEM, 0, 0), 1);
    }

    /** "1 for PERSON 0, 2 for 1, 4 for 2 ..". */
    private static void everyPersonAlone() {
        for (int but = 0; but < 16; but++) {
            BoxArchive x = small();
            x.close(ITEM, 1, 1 << but);
            for (int person = 0; person < 16; person++) {
                c.gives("18: PERSON " + person + " but for " + but, x, x.sees(ITEM, person, 0), person == but ? 1 : 0);
            }
            x.close(ITEM, 1, 65_535 - (1 << but));
            c.gives("18: but for all other than " + but, x, x.sees(ITEM, but, 0), 0);
        }
    }

    /** CLOSED ones are SEEN from that day on: "until a day that is not behind that". */
    private static void dayByDay() {
        for (int day : new int[] {1, 2, 100_000, 199_999, 200_000}) {
            BoxArchive x = small();
            x.close(BOX, day, 0);
            x.mark(ITEM, 0);
            x.say(BOX, 0, 0);
            x.tray(0, 0, 1);
            for (int at : new int[] {day - 1, day, day + 1}) {
                int seen = at < day ? 0 : 1;
                c.gives("18: until " + day + ", on " + at, x, x.sees(ITEM, 0, at), seen);
                c.gives("19: until " + day + ", on " + at, x, x.number(SERIES, 3, 0, at), 2 * seen);
                c.gives("20: until " + day + ", on " + at, x, x.find(0, 0, 0, at, 0), 2 * seen);
                c.due("22: until " + day + ", on " + at, x.walk(0, 0, at), seen == 1 ? ITEM : -1);
            }
        }
        BoxArchive x = small();
        x.close(ITEM, 0, 0);
        c.gives("18: until day 0, on it", x, x.sees(ITEM, 0, 0), 1);
    }

    private static void closeInLine() {
        BoxArchive x = twoBoxes();
        x.close(BOX, 50, 1 << 1 | 1 << 2);
        x.close(ITEM, 80, 1 << 1);
        c.gives("18: a part of what is CLOSED", x, x.sees(FOLDER, 0, 49), 0);
        c.gives("18: the whole is not", x, x.sees(SERIES, 0, 49), 1);
        c.gives("18: another part is not", x, x.sees(OTHER_ITEM, 0, 49), 1);
        c.gives("18: each in the LINE lets in", x, x.sees(ITEM, 1, 0), 1);
        c.gives("18: one in the LINE does not", x, x.sees(ITEM, 2, 0), 0);
        c.gives("18: the longer holds", x, x.sees(ITEM, 0, 79), 0);
        c.gives("18: behind both", x, x.sees(ITEM, 0, 80), 1);
    }

    private static void closeRefused() {
        BoxArchive x = twoBoxes();
        x.close(ITEM, 10, 1);
        c.refuses("17: no such THING", x, x.close(NO_THING_EITHER, 1, 0), 2);
        c.refuses("17: no such THING below, ahead of 5", x, x.close(-1, 200_001, 0), 2);
        c.refuses("17: a day too late", x, x.close(ITEM, 200_001, 0), 5);
        c.refuses("17: a day too early", x, x.close(ITEM, -2, 0), 5);
        c.refuses("17: PERSONS too many", x, x.close(ITEM, 1, 65_536), 5);
        c.refuses("17: PERSONS below 0", x, x.close(ITEM, 1, -1), 5);
        c.gives("17: refused ones change nothing", x, x.sees(ITEM, 0, 9), 1);
        c.gives("17: refused ones change nothing", x, x.sees(ITEM, 1, 9), 0);
    }

    private static void seesRefused() {
        BoxArchive x = twoBoxes();
        c.refuses("18: no such THING", x, x.sees(NO_THING_EITHER, 0, 0), 2);
        c.refuses("18: no such PERSON", x, x.sees(0, 16, 0), 2);
        c.refuses("18: no such PERSON below", x, x.sees(0, -1, 0), 2);
        c.refuses("18: a day below 0", x, x.sees(0, 0, -1), 5);
        c.refuses("18: a day too late", x, x.sees(0, 0, 300_001), 5);
        c.refuses("18: 2 ahead of 5", x, x.sees(0, 16, 300_001), 2);
    }

    private static void numberByLevel() {
        BoxArchive x = twoBoxes();
        int[][] want = {
            {1, 2, 1, 3},
            {0, 1, 1, 2},
            {0, 0, 1, 1},
            {0, 0, 0, 1},
        };
        for (int thing = 0; thing < want.length; thing++) {
            for (int level = 0; level < 4; level++) {
                c.gives("19: of " + thing + ", LEVEL " + level, x, x.number(thing, level, 0, 0), want[thing][level]);
            }
        }
        x.close(BOX, 10, 0);
        c.gives("19: CLOSED BOX", x, x.number(SERIES, 1, 0, 9), 1);
        c.gives("19: FOLDER in it", x, x.number(SERIES, 2, 0, 9), 0);
        c.gives("19: ITEMS in it", x, x.number(SERIES, 3, 0, 9), 1);
        c.gives("19: of itself", x, x.number(BOX, 1, 0, 9), 0);
        x.close(SERIES, 20, 0);
        c.gives("19: nothing is SEEN", x, x.number(SERIES, 0, 0, 19), 0);
        c.gives("19: a part of a CLOSED whole", x, x.number(OTHER_BOX, 3, 0, 19), 0);
    }

    private static void numberOfPieces() {
        BoxArchive x = twoBoxes();
        x.join(ITEM, OTHER_ITEM);
        c.gives("19: a PIECE in two BOXES", x, x.number(SERIES, 3, 0, 0), 2);
        c.gives("19: in the one", x, x.number(BOX, 3, 0, 0), 2);
        c.gives("19: in the other", x, x.number(OTHER_BOX, 3, 0, 0), 1);
        x.close(BOX, 10, 0);
        c.gives("19: one ITEM of it SEEN is enough", x, x.number(SERIES, 3, 0, 0), 1);
        c.gives("19: an ITEM SEEN elsewhere is no part", x, x.number(BOX, 3, 0, 0), 0);
        x.close(OTHER_ITEM, 10, 0);
        c.gives("19: none of it SEEN", x, x.number(SERIES, 3, 0, 0), 0);
    }

    private static void numberOfCounts() {
        BoxArchive x = twoBoxes();
        x.thing(2, OTHER_BOX);
        x.count(FOLDER, 999);
        x.count(7, 20);
        c.gives("19: with COUNTS", x, x.number(SERIES, 3, 0, 0), 3 + 999 + 20);
        c.gives("19: COUNTS are of LEVEL 3 alone", x, x.number(SERIES, 2, 0, 0), 2);
        c.gives("19: of the FOLDER", x, x.number(FOLDER, 3, 0, 0), 1 + 999);
        c.gives("19: of an ITEM", x, x.number(ITEM, 3, 0, 0), 1);
        x.close(FOLDER, 10, 1 << 4);
        c.gives("19: a COUNT that is not SEEN", x, x.number(SERIES, 3, 0, 0), 2 + 20);
        c.gives("19: but for PERSON 4", x, x.number(SERIES, 3, 4, 0), 3 + 999 + 20);
        x.close(FOLDER, -1, 0);
        x.close(ITEM, 10, 0);
        c.gives("19: a COUNT beside an ITEM not SEEN", x, x.number(FOLDER, 3, 0, 0), 999);
        x.count(FOLDER, -1);
        c.gives("19: no COUNT", x, x.number(FOLDER, 3, 0, 0), 0);
    }

    private static void numberRefused() {
        BoxArchive x = twoBoxes();
        c.refuses("19: no such THING", x, x.number(NO_THING_EITHER, 0, 0, 0), 2);
        c.refuses("19: no such PERSON", x, x.number(0, 0, 16, 0), 2);
        c.refuses("19: no such PERSON, ahead of 5", x, x.number(0, 4, -1, 0), 2);
        c.refuses("19: no such LEVEL", x, x.number(0, 4, 0, 0), 5);
        c.refuses("19: no such LEVEL below", x, x.number(0, -1, 0, 0), 5);
        c.refuses("19: a day below 0", x, x.number(0, 0, 0, -1), 5);
        c.refuses("19: a day too late", x, x.number(0, 0, 0, 300_001), 5);
        c.gives("19: the last day", x, x.number(0, 0, 0, 300_000), 1);
    }

    private static void find() {
        BoxArchive x = twoBoxes();
        x.tray(0, 0, 5);
        c.gives("20: none", x, x.find(0, 7, 0, 0, 0), 0);
        x.say(SERIES, 0, 7);
        c.gives("20: ITEMS alone", x, x.find(0, 7, 0, 0, 0), 3);
        x.say(FOLDER, 0, 8);
        c.gives("20: they say otherwise", x, x.find(0, 7, 0, 0, 0), 2);
        c.gives("20: the first", x, x.read(0, 0), LOOSE_ITEM);
        c.gives("20: another FIELD", x, x.find(1, 7, 0, 0, 0), 0);
        x.close(BOX, 10, 1 << 3);
        c.gives("20: not SEEN", x, x.find(0, 7, 0, 9, 0), 1);
        c.gives("20: the one SEEN", x, x.read(0, 0), OTHER_ITEM);
        c.gives("20: SEEN by PERSON 3", x, x.find(0, 8, 3, 9, 0), 1);
        c.gives("20: SEEN behind the day", x, x.find(0, 8, 0, 10, 0), 1);
        x.say(SERIES, 5, 0);
        c.gives("20: the least number, the last FIELD, PERSON and day", x, x.find(5, 0, 15, 300_000, 0), 3);
        x.join(ITEM, LOOSE_ITEM);
        c.gives("20: ITEMS of one PIECE are several", x, x.find(5, 0, 3, 0, 0), 3);
    }

    private static void findFillsTheTray() {
        BoxArchive x = twoBoxes();
        x.say(SERIES, 0, 999);
        x.tray(0, 3, 5);
        x.tray(1, 1, 2);
        x.tray(2, 2, 0);
        for (int place = 0; place < 5; place++) {
            x.write(0, place, 50);
        }
        c.gives("20: a long TRAY", x, x.find(0, 999, 0, 0, 0), 3);
        long[] want = {ITEM, LOOSE_ITEM, OTHER_ITEM, 50, 50};
        for (int place = 0; place < 5; place++) {
            c.gives("20: place " + place, x, x.read(0, place), want[place]);
        }
        c.gives("20: a short TRAY", x, x.find(0, 999, 0, 0, 1), 3);
        c.gives("20: its last place", x, x.read(1, 1), LOOSE_ITEM);
        c.gives("20: a TRAY without places", x, x.find(0, 999, 0, 0, 2), 3);
    }

    /** "as many as it has places": fewer than the three found, as many, and more. */
    private static void findFillsAsManyPlacesAsThereAre() {
        long[] found = {ITEM, LOOSE_ITEM, OTHER_ITEM};
        for (int length = 0; length <= 5; length++) {
            BoxArchive x = twoBoxes();
            x.say(SERIES, 0, 1);
            x.tray(0, 1, length);
            for (int place = 0; place < length; place++) {
                x.write(0, place, -7);
            }
            c.gives("20: a TRAY of " + length, x, x.find(0, 1, 0, 0, 0), 3);
            for (int place = 0; place < length; place++) {
                c.gives("20: a TRAY of " + length, x, x.read(0, place), place < 3 ? found[place] : -7);
            }
            c.refuses("20: it has become no longer", x, x.read(0, length), 4);
        }
    }

    private static void findRefused() {
        BoxArchive x = twoBoxes();
        x.say(SERIES, 0, 4);
        x.tray(0, 2, 1);
        x.write(0, 0, 77);
        c.refuses("20: no such TRAY", x, x.find(0, 4, 0, 0, 4), 1);
        c.refuses("20: no such TRAY, ahead of 2", x, x.find(6, 4, 16, 0, -1), 1);
        c.refuses("20: no such FIELD", x, x.find(6, 4, 0, 0, 0), 2);
        c.refuses("20: no such FIELD, ahead of 3", x, x.find(-1, 4, 0, 0, 1), 2);
        c.refuses("20: no such PERSON", x, x.find(0, 4, 16, 0, 0), 2);
        c.refuses("20: no such PERSON, ahead of 5", x, x.find(0, 1000, -1, 0, 0), 2);
        c.refuses("20: MISSING", x, x.find(0, 4, 0, 0, 1), 3);
        c.refuses("20: MISSING, ahead of 5", x, x.find(0, 1000, 0, -1, 1), 3);
        c.refuses("20: a number too great", x, x.find(0, 1000, 0, 0, 0), 5);
        c.refuses("20: a number below 0", x, x.find(0, -1, 0, 0, 0), 5);
        c.refuses("20: a day below 0", x, x.find(0, 4, 0, -1, 0), 5);
        c.refuses("20: a day too late", x, x.find(0, 4, 0, 300_001, 0), 5);
        c.gives("20: refused ones leave the TRAY", x, x.read(0, 0), 77);
    }

    private static void mark() {
        BoxArchive x = twoBoxes();
        c.does("21: the least", x, x.mark(SERIES, 0));
        c.does("21: the greatest", x, x.mark(ITEM, 9_999));
        c.gives("21: the greatest", x, x.told(ITEM, 6), 9_999);
        c.refuses("21: another one has it", x, x.mark(BOX, 0), 10);
        c.gives("21: none came", x, x.told(BOX, 6), -1);
        c.does("21: its own again", x, x.mark(SERIES, 0));
        c.refuses("21: no such THING", x, x.mark(NO_THING_EITHER, 1), 2);
        c.refuses("21: no such THING, ahead of 5", x, x.mark(-1, 10_000), 2);
        c.refuses("21: too great", x, x.mark(BOX, 10_000), 5);
        c.refuses("21: too little", x, x.mark(BOX, -2), 5);
        c.does("21: none", x, x.mark(SERIES, -1));
        c.does("21: free for another one", x, x.mark(BOX, 0));
        c.does("21: several without", x, x.mark(FOLDER, -1));
        c.does("21: changed", x, x.mark(BOX, 1));
        c.does("21: the former one is free", x, x.mark(SERIES, 0));
    }

    private static void walkIs(String what, BoxArchive x, int person, int day, int... want) {
        for (int k = 0; k < want.length; k++) {
            c.gives(what + ", k " + k, x, x.walk(k, person, day), want[k]);
        }
        c.refuses(what + ", its end", x, x.walk(want.length, person, day), 9);
    }

    private static void walk() {
        BoxArchive x = twoBoxes();
        walkIs("22: none has a mark", x, 0, 0);
        x.mark(ITEM, 30);
        x.mark(SERIES, 9_999);
        x.mark(BOX, 0);
        x.mark(OTHER_ITEM, 20);
        x.mark(FOLDER, 25);
        walkIs("22: by marks", x, 0, 0, BOX, OTHER_ITEM, FOLDER, ITEM, SERIES);
        x.close(FOLDER, 7, 1 << 6);
        walkIs("22: not SEEN", x, 0, 6, BOX, OTHER_ITEM, SERIES);
        walkIs("22: but for PERSON 6", x, 6, 6, BOX, OTHER_ITEM, FOLDER, ITEM, SERIES);
        walkIs("22: behind the day", x, 0, 7, BOX, OTHER_ITEM, FOLDER, ITEM, SERIES);
        x.mark(BOX, -1);
        x.mark(OTHER_ITEM, 28);
        walkIs("22: marks changed", x, 15, 300_000, FOLDER, OTHER_ITEM, ITEM, SERIES);
    }

    private static void walkRefused() {
        BoxArchive x = twoBoxes();
        x.mark(ITEM, 1);
        c.refuses("22: no such PERSON", x, x.walk(0, 16, 0), 2);
        c.refuses("22: no such PERSON, ahead of 5", x, x.walk(-1, -1, -1), 2);
        c.refuses("22: k below 0", x, x.walk(-1, 0, 0), 5);
        c.refuses("22: a day below 0", x, x.walk(0, 0, -1), 5);
        c.refuses("22: a day too late, ahead of 9", x, x.walk(1, 0, 300_001), 5);
        c.refuses("22: the greatest k", x, x.walk(Integer.MAX_VALUE, 0, 0), 9);
    }

    /** As many THINGS as can be: a SERIES, a BOX and 78 ITEMS, with OLD MARKS against their numbers. */
    private static void fullArchive() {
        BoxArchive x = new BoxArchive();
        x.thing(0, -1);
        x.thing(1, SERIES);
        for (int i = 2; i < 80; i++) {
            x.thing(3, BOX);
        }
        for (int i = 0; i < 80; i++) {
            x.mark(i, 79 - i);
        }
        x.say(SERIES, 5, 1);
        x.span(0, 5, 6);
        x.span(79, 4, 6);
        x.tray(0, 0, 40);
        c.gives("8: right in the BOX", x, x.told(BOX, 2), 78);
        c.gives("13: of the BOX", x, x.held(BOX, false), 4);
        c.gives("14: the last THING", x, x.quarrel(0), 79);
        c.gives("19: ITEMS", x, x.number(SERIES, 3, 0, 0), 78);
        c.does("16: the last two", x, x.join(79, 78));
        c.gives("19: ITEMS, two being one", x, x.number(SERIES, 3, 0, 0), 77);
        c.gives("20: all", x, x.find(5, 1, 0, 0, 0), 78);
        c.gives("20: the last place", x, x.read(0, 39), 41);
        c.gives("22: the first", x, x.walk(0, 0, 0), 79);
        c.gives("22: the last", x, x.walk(79, 0, 0), 0);
        c.refuses("22: none behind", x, x.walk(80, 0, 0), 9);
        c.refuses("21: another one has it", x, x.mark(0, 0), 10);
    }
}
