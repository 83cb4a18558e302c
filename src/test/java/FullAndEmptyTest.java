/** The empty and the full TRAY, archive, LOG and row of PLACES, up to the last one that there is room for. */
public final class FullAndEmptyTest {
    private static final Checks c = new Checks();

    public static void main(String[] args) {
        emptyArchive();
        emptyTray();
        fullTrays();
        pourOfAFullTray();
        eightySeries();
        mostRightInOne();
        mostCounts();
        onePieceOfAll();
        emptyWholes();
        lastRoomForAThing();
        lastRoomInTheLog();
        fullLogIsStillRead();
        emptyShelves();
        everyPlace();
        everyGoal();
        lastEmptyPlace();
        c.end();
    }

    private static void emptyArchive() {
        BoxArchive x = new BoxArchive();
        x.tray(0, 0, 1);
        c.gives("20: no THINGS", x, x.find(0, 0, 0, 0, 0), 0);
        c.refuses("14: no THINGS", x, x.quarrel(0), 9);
        c.refuses("22: no THINGS", x, x.walk(0, 0, 0), 9);
        c.gives("28: no BOXES", x, x.plan(), 0);
        c.refuses("29: no BOXES", x, x.carry(0, 0), 9);
        c.does("30: no BOXES", x, x.carried());
        c.gives("7: the first", x, x.thing(0, -1), 0);
    }

    private static void emptyTray() {
        for (int sort = 0; sort < 4; sort++) {
            BoxArchive x = new BoxArchive();
            x.thing(0, -1);
            x.thing(1, 0);
            x.thing(3, 1);
            x.say(0, 0, 7);
            c.does("3: of no numbers", x, x.tray(0, sort, 0));
            c.refuses("4: no place", x, x.write(0, 0, 1), 4);
            c.refuses("5: no place, but not MISSING", x, x.read(0, 0), 4);
            c.does("6: none of it", x, x.pour(0, 0, 0, 0, 0));
            c.refuses("6: one of it", x, x.pour(0, 0, 0, 0, 1), 4);
            c.refuses("6: none behind it", x, x.pour(0, 1, 0, 0, 0), 4);
            c.gives("20: found, but nothing comes to it", x, x.find(0, 7, 0, 0, 0), 1);
            c.refuses("31: no place", x, x.search(0, 1, 0), 4);
        }
    }

    private static void fullTrays() {
        BoxArchive x = new BoxArchive();
        for (int tray = 0; tray < 4; tray++) {
            c.does("3: of 40", x, x.tray(tray, tray, 40));
            for (int place = 0; place < 40; place++) {
                x.write(tray, place, 40 * tray + place - 80);
            }
        }
        for (int tray = 0; tray < 4; tray++) {
            for (int place = 0; place < 40; place++) {
                c.due("5: TRAY " + tray + ", place " + place, x.read(tray, place), 40 * tray + place - 80);
            }
        }
        c.refuses("4: one more", x, x.write(3, 40, 1), 4);
        c.does("3: shorter", x, x.tray(3, 3, 39));
        c.refuses("5: the former last place", x, x.read(3, 39), 4);
        c.does("3: full again", x, x.tray(3, 3, 40));
        c.gives("3: all 0, also behind a shorter one", x, x.read(3, 39), 0);
    }

    private static BoxArchive withFullRow() {
        BoxArchive x = new BoxArchive();
        x.tray(0, 3, 40);
        x.tray(1, 3, 40);
        for (int place = 0; place < 40; place++) {
            x.write(0, place, 100 + place);
        }
        return x;
    }

    private static void pourOfAFullTray() {
        BoxArchive x = withFullRow();
        c.does("6: all", x, x.pour(0, 0, 1, 0, 40));
        c.does("6: all but one forth in the same", x, x.pour(0, 0, 0, 1, 39));
        for (int place = 0; place < 40; place++) {
            c.due("6: all, place " + place, x.read(1, place), 100 + place);
            c.due("6: forth, place " + place, x.read(0, place), 100 + Math.max(0, place - 1));
        }
        x = withFullRow();
        c.does("6: all but one back in the same", x, x.pour(0, 1, 0, 0, 39));
        c.does("6: the last one alone", x, x.pour(0, 39, 1, 39, 1));
        for (int place = 0; place < 40; place++) {
            c.due("6: back, place " + place, x.read(0, place), 100 + Math.min(39, place + 1));
            c.due("6: the last one, place " + place, x.read(1, place), place == 39 ? 139 : 0);
        }
    }

    private static void eightySeries() {
        BoxArchive x = new World().andMany(80, "thing(0, -1)", "mark(+0, +0)").ours();
        c.refuses("7: one too many", x, x.thing(0, -1), 7);
        for (int thing = 0; thing < 80; thing++) {
            c.due("8: above " + thing, x.told(thing, 1), -1);
            c.due("19: of " + thing, x.number(thing, 0, 0, 0), 1);
            c.due("22: WALK " + thing, x.walk(thing, 0, 0), thing);
        }
        c.refuses("22: WALK 80", x, x.walk(80, 0, 0), 9);
        c.does("25: of the last", x, x.fetch(79, 15, 100_000));
        c.gives("25: of the last", x, x.where(79, 100_000), 15);
    }

    private static void mostRightInOne() {
        BoxArchive x = new World("thing(0, -1)").andMany(79, "thing(1, 0)").ours();
        c.gives("8: 79 BOXES", x, x.told(0, 2), 79);
        c.gives("19: 79 BOXES", x, x.number(0, 1, 0, 0), 79);
        x = new World("thing(0, -1)", "thing(1, 0)").andMany(78, "thing(2, 1)").ours();
        c.gives("8: 78 FOLDERS", x, x.told(1, 2), 78);
        c.gives("8: not those in it", x, x.told(0, 2), 1);
        c.gives("19: 78 FOLDERS", x, x.number(0, 2, 0, 0), 78);
        x = new World("thing(0, -1)", "thing(1, 0)", "tray(0, 0, 40)", "say(0, 0, 1)").andMany(78, "thing(3, 1)").ours();
        c.gives("19: 78 ITEMS", x, x.number(0, 3, 0, 0), 78);
        c.gives("20: 78 ITEMS", x, x.find(0, 1, 0, 0, 0), 78);
        c.gives("20: to the last place", x, x.read(0, 39), 41);
        x.span(79, 3, 3);
        c.gives("13: by the last one alone", x, x.held(0, true), 3);
        x.span(0, 4, 4);
        c.gives("14: the last one", x, x.quarrel(0), 79);
    }

    private static void mostCounts() {
        BoxArchive x = new World("thing(0, -1)", "thing(1, 0)").andMany(78, "thing(2, 1)").ours();
        for (int folder = 2; folder < 80; folder++) {
            x.count(folder, 999);
        }
        c.gives("19: all COUNTS", x, x.number(0, 3, 0, 0), 78 * 999);
        x.close(79, 1, 0);
        c.gives("19: all but one", x, x.number(0, 3, 0, 0), 77 * 999);
    }

    private static void onePieceOfAll() {
        BoxArchive x = new World("thing(0, -1)", "thing(1, 0)").andMany(78, "thing(3, 1)").ours();
        for (int item = 79; item > 2; item--) {
            c.does("16: " + item, x, x.join(item, item - 1));
        }
        c.gives("19: one PIECE", x, x.number(0, 3, 0, 0), 1);
        c.refuses("16: the first and the last", x, x.join(2, 79), 10);
        x.close(1, 9, 0);
        c.gives("19: none of it is SEEN", x, x.number(0, 3, 0, 8), 0);
    }

    private static void emptyWholes() {
        BoxArchive x = new World("thing(0, -1)", "thing(1, 0)", "thing(2, 1)").ours();
        for (int thing = 0; thing < 3; thing++) {
            c.gives("8: right in " + thing, x, x.told(thing, 2), thing < 2 ? 1 : 0);
            c.gives("19: ITEMS in " + thing, x, x.number(thing, 3, 0, 0), 0);
            c.refuses("13: nothing with a SPAN in " + thing, x, x.held(thing, false), 9);
        }
        c.gives("19: a LEVEL above its own", x, x.number(2, 1, 0, 0), 0);
        x.count(2, 0);
        c.gives("19: a COUNT of 0", x, x.number(0, 3, 0, 0), 0);
    }

    /** A refused THING takes no room. */
    private static void lastRoomForAThing() {
        BoxArchive x = new World("thing(0, -1)").andMany(78, "thing(1, 0)").ours();
        c.refuses("7: of another LEVEL", x, x.thing(2, 0), 8);
        c.refuses("7: in none", x, x.thing(1, -1), 2);
        c.refuses("7: no such LEVEL", x, x.thing(4, 0), 5);
        c.gives("7: the 80th", x, x.thing(2, 78), 79);
        c.refuses("7: the 81st", x, x.thing(2, 78), 7);
        c.gives("8: right in the last BOX", x, x.told(78, 2), 1);
        c.refuses("8: there is none", x, x.told(80, 0), 2);
    }

    /** A refused entry takes no room. */
    private static void lastRoomInTheLog() {
        World almost = new World("thing(0, -1)", "thing(0, -1)").andMany(99, "fetch(0, 1, +0)", "back(0, +0)")
            .and("fetch(0, 2, 98)");
        BoxArchive x = almost.ours();
        c.refuses("23: it is out", x, x.fetch(0, 0, 98), 10);
        c.refuses("24: it is not out", x, x.back(1, 98), 10);
        c.refuses("23: a tick that is gone", x, x.fetch(1, 0, 97), 5);
        c.does("24: the 200th", x, x.back(0, 98));
        c.refuses("24: the 201st", x, x.back(0, 98), 7);
        c.refuses("23: the 201st", x, x.fetch(0, 0, 98), 7);
        x = almost.ours();
        c.does("23: the 200th", x, x.fetch(1, 3, 100_000));
        c.refuses("23: the 201st", x, x.fetch(1, 3, 100_000), 7);
        c.gives("25: by the 200th", x, x.where(1, 100_000), 3);
        c.gives("25: ahead of the 200th", x, x.where(1, 99_999), -1);
    }

    private static void fullLogIsStillRead() {
        BoxArchive x = World.FULL_LOG.ours();
        c.gives("25: ahead of all", x, x.where(3, 6), -1);
        c.gives("25: gone and come at one tick", x, x.where(3, 7), -1);
        c.gives("25: by the last but one", x, x.where(3, 8), 0);
        c.gives("25: by the last", x, x.where(3, 9), 15);
        c.gives("25: the SERIES", x, x.where(0, 9), 0);
        c.gives("25: at the last tick", x, x.where(3, 100_000), 15);
    }

    private static void emptyShelves() {
        BoxArchive x = new World("thing(0, -1)").andMany(3, "thing(1, 0)", "goal(+1, +0)").ours();
        c.gives("28: none stands", x, x.plan(), 0);
        c.refuses("29: none stands", x, x.carry(0, 0), 9);
        c.does("30: none stands", x, x.carried());
        c.gives("30: none came to its GOAL", x, x.told(1, 4), -1);
        x.stand(2, 39);
        c.gives("28: one stands", x, x.plan(), 1);
        c.gives("29: it alone is carried", x, x.carry(0, 0), 2);
    }

    /** "no two in one". */
    private static void everyPlace() {
        BoxArchive x = new World("thing(0, -1)").andMany(41, "thing(1, 0)").andMany(40, "stand(+1, +0)").ours();
        for (int place = 0; place < 40; place++) {
            c.refuses("26: PLACE " + place + " is full", x, x.stand(41, place), 10);
            c.gives("8: BOX " + (place + 1), x, x.told(place + 1, 4), place);
        }
        c.does("26: in none", x, x.stand(41, -1));
        c.gives("28: no GOALS", x, x.plan(), 0);
        c.does("26: one leaves", x, x.stand(17, -1));
        c.does("26: the last room", x, x.stand(41, 16));
        c.refuses("26: and back", x, x.stand(17, 16), 10);
        c.does("26: where it stands", x, x.stand(41, 16));
    }

    /** "no two alike". */
    private static void everyGoal() {
        BoxArchive x = new World("thing(0, -1)").andMany(41, "thing(1, 0)").andMany(40, "goal(+1, +0)").ours();
        for (int place = 0; place < 40; place++) {
            c.refuses("27: GOAL " + place + " is taken", x, x.goal(41, place), 10);
            c.gives("8: GOAL of BOX " + (place + 1), x, x.told(place + 1, 5), place);
        }
        c.does("27: none", x, x.goal(41, -1));
        c.does("27: one has none any more", x, x.goal(40, -1));
        c.does("27: free", x, x.goal(41, 39));
        c.refuses("27: and back", x, x.goal(40, 39), 10);
    }

    /** All PLACES but one are full; a ring of all BOXES goes over the empty one. */
    private static void lastEmptyPlace() {
        World ring = new World("thing(0, -1)").andMany(39, "thing(1, 0)", "stand(+1, +0)")
            .andMany(38, "goal(+1, +1)").and("goal(39, 0)");
        BoxArchive x = ring.ours();
        c.gives("28: a ring of 39", x, x.plan(), 40);
        c.gives("29: the least BOX", x, x.carry(0, 0), 1);
        c.gives("29: to the only empty PLACE", x, x.carry(0, 2), 39);
        c.gives("29: the last BOX then", x, x.carry(1, 0), 39);
        c.gives("29: at the end the first again", x, x.carry(39, 0), 1);
        c.gives("29: from there", x, x.carry(39, 1), 39);
        c.gives("29: to its GOAL", x, x.carry(39, 2), 1);
        c.refuses("29: no more", x, x.carry(40, 0), 9);
        c.does("30: a ring of 39", x, x.carried());
        c.gives("30: the first BOX", x, x.told(1, 4), 1);
        c.gives("30: the last BOX", x, x.told(39, 4), 0);
        x = ring.and("thing(1, 0)", "stand(40, 39)").ours();
        c.refuses("28: the last PLACE is full", x, x.plan(), 12);
    }
}
