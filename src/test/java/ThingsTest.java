/** Promises 7 to 16: thing, told, say, has, span, noSpan, held, quarrel, count, join. */
public final class ThingsTest extends SmallArchive {
    private static final Checks c = new Checks();

    public static void main(String[] args) {
        levels();
        thingRefused();
        mostThings();
        told();
        sayAndHas();
        sayAndHasRefused();
        spanEdges();
        spanRefused();
        noSpan();
        held();
        heldFromDayZero();
        heldOverThreeLevels();
        quarrel();
        quarrelSkipsUntoldOnes();
        count();
        join();
        c.end();
    }

    private static void levels() {
        boolean[][] fits = {
            {false, false, false, false},
            {true, false, false, false},
            {false, true, false, false},
            {false, true, true, false},
        };
        for (int level = 1; level < 4; level++) {
            for (int above = 0; above < 4; above++) {
                BoxArchive x = small();
                if (fits[level][above]) {
                    c.gives("7: LEVEL " + level + " in " + above, x, x.thing(level, above), 5);
                    c.gives("8: what is above", x, x.told(5, 1), above);
                } else {
                    c.refuses("7: LEVEL " + level + " in " + above, x, x.thing(level, above), 8);
                    c.refuses("7: none came", x, x.told(5, 0), 2);
                }
            }
        }
    }

    private static void thingRefused() {
        BoxArchive x = small();
        c.refuses("7: no LEVEL 4", x, x.thing(4, 2), 5);
        c.refuses("7: no LEVEL below 0", x, x.thing(-1, -1), 5);
        c.refuses("7: 5 ahead of 2", x, x.thing(4, 99), 5);
        c.refuses("7: a BOX in none", x, x.thing(1, -1), 2);
        c.refuses("7: a FOLDER in none", x, x.thing(2, -1), 2);
        c.refuses("7: an ITEM in none", x, x.thing(3, -1), 2);
        c.refuses("7: in one that isn't there", x, x.thing(1, 5), 2);
        c.refuses("7: in one that can't be", x, x.thing(1, -2), 2);
        c.refuses("7: a SERIES in a THING", x, x.thing(0, 0), 2);
        c.refuses("7: a SERIES in one that isn't there", x, x.thing(0, 5), 2);
        c.gives("7: none came", x, x.thing(0, -1), 5);
    }

    private static void mostThings() {
        BoxArchive x = new BoxArchive();
        for (int i = 0; i < 80; i++) {
            c.gives("7: numbered as they come", x, x.thing(0, -1), i);
        }
        c.refuses("7: the 81st", x, x.thing(0, -1), 7);
        c.refuses("7: the 81st, 5 ahead", x, x.thing(4, -1), 5);
        c.refuses("7: the 81st, 2 ahead", x, x.thing(1, 80), 2);
        c.refuses("7: the 81st, 8 ahead", x, x.thing(2, 0), 8);
        c.gives("7: the 80th", x, x.told(79, 0), 0);
        c.refuses("7: no 81st", x, x.told(80, 0), 2);
    }

    private static void told() {
        BoxArchive x = small();
        int[][] want = {
            {0, -1, 1, -1, -1, -1, -1},
            {1, 0, 2, -1, -1, -1, -1},
            {2, 1, 1, -1, -1, -1, -1},
            {3, 2, 0, -1, -1, -1, -1},
            {3, 1, 0, -1, -1, -1, -1},
        };
        x.count(FOLDER, 0);
        want[FOLDER][3] = 0;
        x.stand(BOX, 0);
        want[BOX][4] = 0;
        x.goal(BOX, 39);
        want[BOX][5] = 39;
        x.mark(ITEM, 9_999);
        want[ITEM][6] = 9_999;
        for (int thing = 0; thing < want.length; thing++) {
            for (int what = 0; what < 7; what++) {
                c.gives("8: THING " + thing + ", what " + what, x, x.told(thing, what), want[thing][what]);
            }
        }
        c.refuses("8: no such THING", x, x.told(5, 0), 2);
        c.refuses("8: no such THING below", x, x.told(-1, 0), 2);
        c.refuses("8: what 7", x, x.told(0, 7), 5);
        c.refuses("8: what -1", x, x.told(0, -1), 5);
        c.refuses("8: 2 ahead of 5", x, x.told(5, 7), 2);
    }

    private static void sayAndHas() {
        BoxArchive x = small();
        for (int field = 0; field < 6; field++) {
            c.refuses("10: none yet", x, x.has(ITEM, field), 9);
        }
        c.does("9: the least number", x, x.say(BOX, 5, 0));
        c.does("9: the greatest number", x, x.say(SERIES, 5, 999));
        c.gives("10: its own", x, x.has(SERIES, 5), 999);
        c.gives("10: the nearest's", x, x.has(ITEM, 5), 0);
        c.gives("10: in the BOX", x, x.has(LOOSE_ITEM, 5), 0);
        c.refuses("10: another FIELD", x, x.has(ITEM, 4), 9);
        c.does("9: nothing any more", x, x.say(BOX, 5, -1));
        c.gives("10: the next above", x, x.has(ITEM, 5), 999);
        c.does("9: nothing any more, again", x, x.say(BOX, 5, -1));
        c.does("9: of the part alone", x, x.say(ITEM, 0, 1));
        c.refuses("10: not of the whole", x, x.has(FOLDER, 0), 9);
        c.does("9: said anew", x, x.say(ITEM, 0, 2));
        c.gives("10: said anew", x, x.has(ITEM, 0), 2);
    }

    private static void sayAndHasRefused() {
        BoxArchive x = small();
        x.say(SERIES, 0, 3);
        c.refuses("9: no such THING", x, x.say(5, 0, 1), 2);
        c.refuses("9: no such FIELD", x, x.say(0, 6, 1), 2);
        c.refuses("9: no such FIELD below", x, x.say(0, -1, 1), 2);
        c.refuses("9: too great", x, x.say(0, 0, 1000), 5);
        c.refuses("9: too little", x, x.say(0, 0, -2), 5);
        c.refuses("9: 2 ahead of 5", x, x.say(0, 6, 1000), 2);
        c.refuses("10: no such THING", x, x.has(-1, 0), 2);
        c.refuses("10: no such FIELD", x, x.has(0, 6), 2);
        c.gives("9: refused ones change nothing", x, x.has(0, 0), 3);
    }

    private static void spanEdges() {
        BoxArchive x = small();
        c.does("11: the widest", x, x.span(ITEM, 0, 100_000));
        c.gives("13: its beginning", x, x.held(ITEM, false), 0);
        c.gives("13: its end", x, x.held(ITEM, true), 100_000);
        c.does("11: a single day", x, x.span(ITEM, 0, 0));
        c.gives("13: its end", x, x.held(ITEM, true), 0);
        c.gives("13: of the whole", x, x.held(SERIES, true), 0);
    }

    private static void spanRefused() {
        BoxArchive x = small();
        x.span(0, 3, 4);
        c.refuses("11: no such THING", x, x.span(5, 0, 1), 2);
        c.refuses("11: 2 ahead of 5", x, x.span(-1, 1, 0), 2);
        c.refuses("11: from above to", x, x.span(0, 5, 4), 5);
        c.refuses("11: from below 0", x, x.span(0, -1, 4), 5);
        c.refuses("11: both below 0", x, x.span(0, -1, -1), 5);
        c.refuses("11: to too great", x, x.span(0, 0, 100_001), 5);
        c.gives("11: refused ones change nothing", x, x.held(0, false), 3);
        c.gives("11: refused ones change nothing", x, x.held(0, true), 4);
        c.refuses("13: no such THING", x, x.held(5, true), 2);
    }

    private static void noSpan() {
        BoxArchive x = small();
        x.span(ITEM, 0, 0);
        c.does("12: told no more", x, x.noSpan(ITEM));
        c.refuses("12: none", x, x.noSpan(ITEM), 9);
        c.refuses("12: none is HELD", x, x.held(ITEM, false), 9);
        x.span(ITEM, 1, 2);
        c.refuses("12: HELD but not told", x, x.noSpan(FOLDER), 9);
        c.refuses("12: no such THING", x, x.noSpan(5), 2);
        c.refuses("12: no such THING below", x, x.noSpan(-1), 2);
    }

    private static void held() {
        BoxArchive x = small();
        c.refuses("13: none", x, x.held(SERIES, false), 9);
        x.span(ITEM, 50, 60);
        x.span(LOOSE_ITEM, 55, 70);
        c.gives("13: the least beginning", x, x.held(SERIES, false), 50);
        c.gives("13: the greatest end", x, x.held(SERIES, true), 70);
        c.gives("13: of the FOLDER", x, x.held(FOLDER, true), 60);
        x.span(FOLDER, 52, 53);
        c.gives("13: a SPAN told hides those in it", x, x.held(BOX, false), 52);
        c.gives("13: the part's own stays", x, x.held(ITEM, false), 50);
        x.span(SERIES, 1, 2);
        c.gives("13: its own is ahead", x, x.held(SERIES, true), 2);
        c.gives("13: a part doesn't take the whole's", x, x.held(BOX, true), 70);
        x.noSpan(ITEM);
        c.refuses("13: a part doesn't take the whole's", x, x.held(ITEM, true), 9);
    }

    /** Day 0 is a day like others, whichever of the parts has it. */
    private static void heldFromDayZero() {
        for (int first : new int[] {ITEM, LOOSE_ITEM}) {
            BoxArchive x = small();
            x.span(first, 0, 0);
            c.gives("13: day 0 alone, its beginning", x, x.held(BOX, false), 0);
            c.gives("13: day 0 alone, its end", x, x.held(BOX, true), 0);
            x.span(ITEM + LOOSE_ITEM - first, 7, 8);
            c.gives("13: with a later one, its beginning", x, x.held(BOX, false), 0);
            c.gives("13: with a later one, its end", x, x.held(BOX, true), 8);
        }
    }

    /** "the least that holds the HELD ones of those right in it": neither wider, nor narrower, nor by one part alone. */
    private static void heldOverThreeLevels() {
        BoxArchive x = small();
        x.span(ITEM, 40, 60);
        c.gives("13: from the ITEM up to the SERIES", x, x.held(SERIES, false), 40);
        x.span(LOOSE_ITEM, 45, 50);
        c.gives("13: one lies within the other, its beginning", x, x.held(SERIES, false), 40);
        c.gives("13: one lies within the other, its end", x, x.held(SERIES, true), 60);
        x.span(LOOSE_ITEM, 90, 100_000);
        c.gives("13: apart from each other, its beginning", x, x.held(SERIES, false), 40);
        c.gives("13: apart from each other, its end", x, x.held(SERIES, true), 100_000);
        x.span(BOX, 70, 71);
        c.gives("13: the BOX hides both, its beginning", x, x.held(SERIES, false), 70);
        c.gives("13: the BOX hides both, its end", x, x.held(SERIES, true), 71);
        x.noSpan(BOX);
        c.gives("13: told no more, it hides none", x, x.held(SERIES, true), 100_000);
    }

    private static void quarrel() {
        BoxArchive x = small();
        c.refuses("14: k below 0", x, x.quarrel(-1), 5);
        c.refuses("14: the least k", x, x.quarrel(Integer.MIN_VALUE), 5);
        c.refuses("14: none", x, x.quarrel(0), 9);
        x.span(BOX, 10, 20);
        x.span(FOLDER, 10, 20);
        c.refuses("14: like ones lie within", x, x.quarrel(0), 9);
        x.span(FOLDER, 9, 20);
        c.gives("14: begins too early", x, x.quarrel(0), FOLDER);
        x.span(FOLDER, 10, 21);
        c.gives("14: ends too late", x, x.quarrel(0), FOLDER);
        x.span(FOLDER, 10, 10);
        c.refuses("14: the first day alone lies within", x, x.quarrel(0), 9);
        x.span(FOLDER, 20, 20);
        c.refuses("14: the last day alone lies within", x, x.quarrel(0), 9);
        x.span(FOLDER, 9, 21);
        c.gives("14: both too early and too late", x, x.quarrel(0), FOLDER);
        x.span(LOOSE_ITEM, 30, 40);
        c.gives("14: wholly outside", x, x.quarrel(1), LOOSE_ITEM);
        c.refuses("14: no third", x, x.quarrel(2), 9);
        c.refuses("14: the greatest k", x, x.quarrel(Integer.MAX_VALUE), 9);
        x.span(SERIES, 11, 20);
        c.gives("14: by number", x, x.quarrel(0), BOX);
        c.gives("14: by number", x, x.quarrel(1), FOLDER);
        c.gives("14: by number", x, x.quarrel(2), LOOSE_ITEM);
    }

    private static void quarrelSkipsUntoldOnes() {
        BoxArchive x = small();
        x.span(SERIES, 10, 20);
        x.span(ITEM, 5, 15);
        c.gives("14: with one further above", x, x.quarrel(0), ITEM);
        x.span(BOX, 0, 99);
        c.gives("14: the BOX with the SERIES", x, x.quarrel(0), BOX);
        c.refuses("14: the first above alone counts", x, x.quarrel(1), 9);
    }

    private static void count() {
        BoxArchive x = small();
        c.does("15: the greatest", x, x.count(FOLDER, 999));
        c.gives("15: the greatest", x, x.told(FOLDER, 3), 999);
        c.does("15: the least", x, x.count(FOLDER, 0));
        c.gives("15: the least", x, x.told(FOLDER, 3), 0);
        c.refuses("15: no such THING", x, x.count(5, 1), 2);
        c.refuses("15: too great", x, x.count(FOLDER, 1000), 5);
        c.refuses("15: too little", x, x.count(FOLDER, -2), 5);
        c.refuses("15: 2 ahead of 5", x, x.count(-1, 1000), 2);
        c.refuses("15: 5 ahead of 8", x, x.count(BOX, 1000), 5);
        for (int other : new int[] {SERIES, BOX, ITEM}) {
            c.refuses("15: no FOLDER", x, x.count(other, 1), 8);
            c.refuses("15: no FOLDER, none", x, x.count(other, -1), 8);
        }
        c.gives("15: refused ones change nothing", x, x.told(FOLDER, 3), 0);
        c.does("15: none", x, x.count(FOLDER, -1));
        c.gives("15: none", x, x.told(FOLDER, 3), -1);
    }

    private static void join() {
        BoxArchive x = small();
        for (int i = 5; i < 8; i++) {
            x.thing(3, FOLDER);
        }
        c.does("16: two", x, x.join(3, 4));
        c.does("16: two others", x, x.join(5, 6));
        c.gives("16: the PIECES", x, x.number(0, 3, 0, 0), 3);
        c.refuses("16: one already", x, x.join(4, 3), 10);
        c.does("16: two PIECES", x, x.join(6, 3));
        c.gives("16: the PIECES", x, x.number(0, 3, 0, 0), 2);
        c.refuses("16: one over others", x, x.join(5, 4), 10);
        c.refuses("16: like ones", x, x.join(7, 7), 5);
        c.refuses("16: like ones, ahead of 8", x, x.join(BOX, BOX), 5);
        c.refuses("16: like ones, behind 2", x, x.join(8, 8), 2);
        c.refuses("16: no such first", x, x.join(-1, 3), 2);
        c.refuses("16: no such other, ahead of 8", x, x.join(BOX, 8), 2);
        c.refuses("16: no ITEM first", x, x.join(FOLDER, 3), 8);
        c.refuses("16: no ITEM as the other", x, x.join(3, SERIES), 8);
        c.gives("16: refused ones change nothing", x, x.number(0, 3, 0, 0), 2);
        c.does("16: all", x, x.join(4, 7));
        c.gives("16: the PIECES", x, x.number(0, 3, 0, 0), 1);
    }
}
