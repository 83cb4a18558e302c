import java.util.ArrayDeque;
import java.util.ArrayList;
import java.util.Arrays;
import java.util.Deque;
import java.util.HashMap;
import java.util.List;
import java.util.Map;
import java.util.Random;

/** Promises 26 to 30: stand, goal, plan, carry, carried. */
public final class ShelvesTest {
    private static final int PLACES = 40;

    private static final Checks c = new Checks();

    public static void main(String[] args) {
        stand();
        standRefused();
        goal();
        goalRefused();
        emptyPlan();
        goalEmptyIsAhead();
        leastAstrayToLeastEmpty();
        othersStayWhereTheyWere();
        leastWithAnEmptyGoal();
        lookedAtAnewBehindEachCarry();
        leastEmptyPlaceAtBothEnds();
        leastAstrayPassesOthersOver();
        goalOfOneThatStandsInNone();
        cannotMove();
        cannotMoveForOneOfMany();
        fullShelves();
        longestPlan();
        carryRefused();
        noMoveHasFewerCarries();
        c.end();
    }

    /** THING 0 is a SERIES, 1 to many are BOXES in it. */
    private static BoxArchive boxes(int many) {
        BoxArchive x = new BoxArchive();
        x.thing(0, -1);
        for (int i = 0; i < many; i++) {
            x.thing(1, 0);
        }
        return x;
    }

    /** BOX i + 1 stands in place from[i] and has the goal to[i]. */
    private static BoxArchive shelves(int[] from, int[] to) {
        BoxArchive x = boxes(from.length);
        for (int i = 0; i < from.length; i++) {
            c.does("26: BOX " + (i + 1), x, x.stand(i + 1, from[i]));
            c.does("27: BOX " + (i + 1), x, x.goal(i + 1, to[i]));
        }
        return x;
    }

    private static void planIs(String what, BoxArchive x, int[]... want) {
        c.gives(what + ", how many", x, x.plan(), want.length);
        for (int k = 0; k < want.length; k++) {
            for (int i = 0; i < 3; i++) {
                c.gives(what + ", CARRY " + k + ", what " + i, x, x.carry(k, i), want[k][i]);
            }
        }
        c.refuses(what + ", its end", x, x.carry(want.length, 0), 9);
    }

    private static int[] carry(int box, int from, int to) {
        return new int[] {box, from, to};
    }

    private static void standIn(String what, BoxArchive x, int... want) {
        for (int i = 0; i < want.length; i++) {
            c.gives(what + ", BOX " + (i + 1), x, x.told(i + 1, 4), want[i]);
        }
    }

    private static void stand() {
        BoxArchive x = boxes(2);
        c.does("26: the first PLACE", x, x.stand(1, 0));
        c.does("26: the last PLACE", x, x.stand(2, 39));
        standIn("26", x, 0, 39);
        c.does("26: where it stands", x, x.stand(1, 0));
        c.does("26: elsewhere", x, x.stand(1, 5));
        c.does("26: the former PLACE is empty", x, x.stand(2, 0));
        c.does("26: in none", x, x.stand(1, -1));
        c.does("26: in none, again", x, x.stand(1, -1));
        c.does("26: its PLACE is empty", x, x.stand(2, 5));
        standIn("26", x, -1, 5);
    }

    private static void standRefused() {
        BoxArchive x = boxes(2);
        x.thing(2, 1);
        x.stand(1, 3);
        x.stand(2, 4);
        c.refuses("26: no such THING", x, x.stand(4, 0), 2);
        c.refuses("26: no such PLACE", x, x.stand(1, 40), 2);
        c.refuses("26: no such PLACE below", x, x.stand(1, -2), 2);
        c.refuses("26: no such PLACE, ahead of 8", x, x.stand(0, 40), 2);
        c.refuses("26: a SERIES", x, x.stand(0, 0), 8);
        c.refuses("26: a FOLDER", x, x.stand(3, 0), 8);
        c.refuses("26: a FOLDER in none", x, x.stand(3, -1), 8);
        c.refuses("26: a FOLDER, ahead of 10", x, x.stand(3, 3), 8);
        c.refuses("26: another one is there", x, x.stand(2, 3), 10);
        standIn("26: refused ones change nothing", x, 3, 4);
    }

    private static void goal() {
        BoxArchive x = boxes(2);
        c.does("27: the first PLACE", x, x.goal(1, 0));
        c.does("27: the last PLACE", x, x.goal(2, 39));
        c.gives("27: the last PLACE", x, x.told(2, 5), 39);
        c.does("27: the same again", x, x.goal(1, 0));
        c.does("27: none", x, x.goal(1, -1));
        c.gives("27: none", x, x.told(1, 5), -1);
        c.does("27: free for another one", x, x.goal(2, 0));
        x.stand(1, 9);
        c.does("27: where another one stands", x, x.goal(2, 9));
        c.gives("27: a GOAL is no PLACE", x, x.told(2, 4), -1);
    }

    private static void goalRefused() {
        BoxArchive x = boxes(2);
        x.thing(3, 1);
        x.goal(1, 3);
        c.refuses("27: no such THING", x, x.goal(-1, 0), 2);
        c.refuses("27: no such PLACE", x, x.goal(1, 40), 2);
        c.refuses("27: no such PLACE below", x, x.goal(1, -2), 2);
        c.refuses("27: no such PLACE, ahead of 8", x, x.goal(3, 40), 2);
        c.refuses("27: an ITEM", x, x.goal(3, 0), 8);
        c.refuses("27: an ITEM, ahead of 10", x, x.goal(3, 3), 8);
        c.refuses("27: of another one that stands in none", x, x.goal(2, 3), 10);
        c.gives("27: refused ones change nothing", x, x.told(1, 5), 3);
        c.gives("27: refused ones change nothing", x, x.told(2, 5), -1);
    }

    private static void emptyPlan() {
        BoxArchive x = boxes(3);
        planIs("28: no BOX stands", x);
        x.goal(1, 0);
        planIs("28: a BOX with a GOAL that stands in none", x);
        x.stand(2, 0);
        planIs("28: a GOAL of a BOX that stands in none is no matter", x);
        x.stand(3, 5);
        x.goal(3, 5);
        planIs("28: at its GOAL", x);
        c.does("30: nothing to carry", x, x.carried());
        standIn("30: nothing to carry", x, -1, 0, 5);
    }

    private static void goalEmptyIsAhead() {
        BoxArchive x = shelves(new int[] {0, 1, 2, 10}, new int[] {1, 2, 3, 11});
        planIs("28: a chain and one beside it", x,
            carry(3, 2, 3), carry(2, 1, 2), carry(1, 0, 1), carry(4, 10, 11));
        standIn("28: planning moves none", x, 0, 1, 2, 10);
        c.does("30: done", x, x.carried());
        standIn("30: done", x, 1, 2, 3, 11);
        c.gives("30: GOALS stay", x, x.told(1, 5), 1);
        planIs("30: done", x);
        c.does("30: the PLACES left are empty", x, x.stand(4, 0));
    }

    private static void leastAstrayToLeastEmpty() {
        BoxArchive x = shelves(new int[] {1, 0, 2, 5, 4}, new int[] {0, 1, 2, 4, 5});
        planIs("29: two rings", x,
            carry(1, 1, 3), carry(2, 0, 1), carry(1, 3, 0),
            carry(4, 5, 3), carry(5, 4, 5), carry(4, 3, 4));
        c.does("30: two rings", x, x.carried());
        standIn("30: two rings", x, 0, 1, 2, 4, 5);
    }

    private static void othersStayWhereTheyWere() {
        BoxArchive x = shelves(new int[] {7, 8}, new int[] {8, 7});
        for (int i = 0; i < 3; i++) {
            int box = x.thing(1, 0);
            x.stand(box, i);
        }
        planIs("28: around BOXES without GOALS", x, carry(1, 7, 3), carry(2, 8, 7), carry(1, 3, 8));
        c.does("30: around them", x, x.carried());
        standIn("30: others are where they were", x, 8, 7, 0, 1, 2);
    }

    /** "the least such is carried to it": by its number, not by its PLACE or its GOAL. */
    private static void leastWithAnEmptyGoal() {
        BoxArchive x = shelves(new int[] {39, 20, 0}, new int[] {30, 10, 1});
        planIs("28: three with empty GOALS", x, carry(1, 39, 30), carry(2, 20, 10), carry(3, 0, 1));
        x = shelves(new int[] {0, 1, 39}, new int[] {1, 0, 38});
        planIs("28: an empty GOAL ahead of a lesser BOX", x,
            carry(3, 39, 38), carry(1, 0, 2), carry(2, 1, 0), carry(1, 2, 1));
    }

    private static void lookedAtAnewBehindEachCarry() {
        BoxArchive x = shelves(new int[] {0, 1, 10, 5}, new int[] {1, 2, 11, 0});
        planIs("28: a lesser BOX whose GOAL has become empty is ahead", x,
            carry(2, 1, 2), carry(1, 0, 1), carry(3, 10, 11), carry(4, 5, 0));
        x = shelves(new int[] {5, 0, 1}, new int[] {6, 1, 0});
        planIs("28: a ring behind a single one", x,
            carry(1, 5, 6), carry(2, 0, 2), carry(3, 1, 0), carry(2, 2, 1));
    }

    private static void leastEmptyPlaceAtBothEnds() {
        BoxArchive x = shelves(new int[] {1, 2}, new int[] {2, 1});
        planIs("28: PLACE 0 is the least", x, carry(1, 1, 0), carry(2, 2, 1), carry(1, 0, 2));
        x = boxes(PLACES);
        for (int box = 1; box < PLACES; box++) {
            x.stand(box, box - 1);
        }
        x.goal(3, 38);
        x.goal(39, 2);
        planIs("28: PLACE 39 is the only one", x, carry(3, 2, 39), carry(39, 38, 2), carry(3, 39, 38));
    }

    /** BOX 1 is at its GOAL, 2 has none, 3 stands in none; only then come 4 and 5. */
    private static void leastAstrayPassesOthersOver() {
        BoxArchive x = boxes(5);
        x.stand(1, 0);
        x.goal(1, 0);
        x.stand(2, 1);
        x.goal(3, 2);
        x.stand(4, 8);
        x.stand(5, 9);
        x.goal(4, 9);
        x.goal(5, 8);
        planIs("28: the least that is not at its GOAL", x, carry(4, 8, 2), carry(5, 9, 8), carry(4, 2, 9));
        c.does("30: the others stay", x, x.carried());
        standIn("30: the others stay", x, 0, 1, -1, 9, 8);
    }

    /** Its GOAL is empty like others, and one that stands there is not in its way. */
    private static void goalOfOneThatStandsInNone() {
        BoxArchive x = boxes(3);
        x.goal(1, 0);
        x.stand(2, 5);
        x.stand(3, 6);
        x.goal(2, 6);
        x.goal(3, 5);
        planIs("28: over the GOAL of one that stands in none", x, carry(2, 5, 0), carry(3, 6, 5), carry(2, 0, 6));
        x.stand(1, 7);
        planIs("28: it stands now", x, carry(1, 7, 0), carry(2, 5, 1), carry(3, 6, 5), carry(2, 1, 6));
    }

    /** The first two could be carried, but a MOVE is for all that have a GOAL and stand. */
    private static void cannotMoveForOneOfMany() {
        BoxArchive x = shelves(new int[] {0, 1, 2}, new int[] {10, 11, 12});
        x.thing(1, 0);
        for (int place = 10; place < 13; place++) {
            x.stand(4, place);
            c.refuses("28: one without a GOAL in PLACE " + place, x, x.plan(), 12);
            c.refuses("29: one without a GOAL in PLACE " + place, x, x.carry(0, 0), 12);
        }
        x.stand(4, 13);
        c.gives("28: it is in no one's way", x, x.plan(), 3);
        x.stand(4, 12);
        x.goal(4, 13);
        c.gives("28: it has a GOAL of its own", x, x.plan(), 4);
        x.goal(4, -1);
        x.goal(3, 2);
        c.gives("28: no one's GOAL any more", x, x.plan(), 2);
        x.goal(4, 12);
        c.gives("28: at its GOAL", x, x.plan(), 2);
    }

    private static void cannotMove() {
        BoxArchive x = shelves(new int[] {0, 1}, new int[] {5, 2});
        x.thing(1, 0);
        x.stand(3, 2);
        c.refuses("28: a BOX without a GOAL in the way", x, x.plan(), 12);
        c.refuses("29: 12 ahead of 9", x, x.carry(99, 0), 12);
        c.refuses("29: 12 ahead of 5", x, x.carry(0, 3), 12);
        c.refuses("30: can't be", x, x.carried(), 12);
        standIn("30: a refused one moves none", x, 0, 1, 2);
        x.goal(3, 1);
        c.gives("28: with a GOAL it can be", x, x.plan(), 4);
        x.goal(3, -1);
        x.stand(2, -1);
        c.gives("28: a GOAL of a BOX that stands in none", x, x.plan(), 1);
    }

    private static void fullShelves() {
        BoxArchive x = boxes(PLACES);
        for (int i = 0; i < PLACES; i++) {
            x.stand(i + 1, i);
        }
        c.gives("28: full, no GOALS", x, x.plan(), 0);
        x.goal(1, 0);
        c.gives("28: full, all at their GOALS", x, x.plan(), 0);
        c.does("30: full, all at their GOALS", x, x.carried());
        x.goal(2, 2);
        x.goal(3, 1);
        c.refuses("28: no PLACE is empty", x, x.plan(), 12);
        c.refuses("29: no PLACE is empty", x, x.carry(0, 0), 12);
        c.refuses("30: no PLACE is empty", x, x.carried(), 12);
        x.stand(40, -1);
        planIs("28: one is empty", x, carry(2, 1, 39), carry(3, 2, 1), carry(2, 39, 2));
    }

    /** As many rings as the SHELVES can have. */
    private static void longestPlan() {
        int[] from = new int[39];
        int[] to = new int[39];
        for (int i = 0; i < 39; i++) {
            from[i] = i;
            to[i] = i < 36 ? i ^ 1 : 36 + (i - 35) % 3;
        }
        BoxArchive x = shelves(from, to);
        c.gives("28: the longest", x, x.plan(), 39 + 19);
        c.gives("29: its last CARRY", x, x.carry(57, 2), 37);
        c.does("30: the longest", x, x.carried());
        standIn("30: the longest", x, to);
    }

    private static void carryRefused() {
        BoxArchive x = shelves(new int[] {0}, new int[] {1});
        c.refuses("29: k below 0", x, x.carry(-1, 0), 9);
        c.refuses("29: k too great", x, x.carry(1, 0), 9);
        c.refuses("29: 9 ahead of 5", x, x.carry(1, 3), 9);
        c.refuses("29: what 3", x, x.carry(0, 3), 5);
        c.refuses("29: what below 0", x, x.carry(0, -1), 5);
        c.refuses("29: the greatest k", x, x.carry(Integer.MAX_VALUE, 0), 9);
    }

    /** Small shelves, the other PLACES being full of BOXES without GOALS, against a search through all MOVES. */
    private static void noMoveHasFewerCarries() {
        Random random = new Random(1);
        for (int run = 0; run < 150; run++) {
            int places = 3 + random.nextInt(3);
            int many = 1 + random.nextInt(places - 1);
            int[] from = Arrays.copyOf(shuffled(places, random), many);
            int[] to = Arrays.copyOf(shuffled(places, random), many);
            BoxArchive x = shelves(from, to);
            for (int place = places; place < PLACES; place++) {
                x.stand(x.thing(1, 0), place);
            }
            c.gives("28: fewest, run " + run, x, x.plan(), fewest(from, to, places));
            c.does("30: fewest, run " + run, x, x.carried());
            standIn("30: fewest, run " + run, x, to);
        }
    }

    private static int[] shuffled(int many, Random random) {
        int[] row = new int[many];
        for (int i = 0; i < many; i++) {
            int j = random.nextInt(i + 1);
            row[i] = row[j];
            row[j] = i;
        }
        return row;
    }

    private static int fewest(int[] from, int[] to, int places) {
        List<Integer> start = asList(from);
        List<Integer> end = asList(to);
        Map<List<Integer>, Integer> carries = new HashMap<>();
        Deque<List<Integer>> open = new ArrayDeque<>();
        carries.put(start, 0);
        open.add(start);
        while (!carries.containsKey(end)) {
            List<Integer> now = open.remove();
            for (int box = 0; box < from.length; box++) {
                for (int place = 0; place < places; place++) {
                    List<Integer> next = new ArrayList<>(now);
                    next.set(box, place);
                    if (!now.contains(place) && !carries.containsKey(next)) {
                        carries.put(next, carries.get(now) + 1);
                        open.add(next);
                    }
                }
            }
        }
        return carries.get(end);
    }

    private static List<Integer> asList(int[] row) {
        List<Integer> list = new ArrayList<>();
        for (int v : row) {
            list.add(v);
        }
        return list;
    }
}
