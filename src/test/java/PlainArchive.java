import java.util.ArrayList;
import java.util.Arrays;
import java.util.HashSet;
import java.util.List;
import java.util.Map;
import java.util.Set;
import java.util.TreeMap;
import java.util.TreeSet;

/**
 * The document once more, by the Java library and by other ways than BoxArchive goes, without a thought of speed.
 * A call tells its answer (a boolean as 1 or 0); which STATUSES hold is collected, and the first of them counts.
 */
final class PlainArchive {
    private int status = 0;
    private long upper = 0;
    private long lower = 1;

    private final List<List<Long>> trays = new ArrayList<>(Arrays.asList(null, null, null, null));
    private final int[] sorts = new int[4];
    private final List<Thing> things = new ArrayList<>();
    private final List<int[]> joins = new ArrayList<>();
    private final List<int[]> log = new ArrayList<>();
    private final Map<Integer, Integer> places = new TreeMap<>();
    private final Map<Integer, Integer> goals = new TreeMap<>();
    private List<Integer> reasons = new ArrayList<>();

    private static final class Thing {
        int number;
        int level;
        Thing above;
        Map<Integer, Integer> said = new TreeMap<>();
        int[] span;
        Integer count;
        int[] closed;
        Integer mark;

        List<Thing> line() {
            List<Thing> line = new ArrayList<>();
            line.add(this);
            if (above != null) {
                line.addAll(above.line());
            }
            return line;
        }

        boolean seen(int person, int day) {
            for (Thing t : line()) {
                if (t.closed != null && t.closed[0] > day && (t.closed[1] & 1 << person) == 0) {
                    return false;
                }
            }
            return true;
        }

        Integer has(int field) {
            for (Thing t : line()) {
                if (t.said.containsKey(field)) {
                    return t.said.get(field);
                }
            }
            return null;
        }
    }

    long status() {
        return status;
    }

    long upper() {
        return upper;
    }

    long lower() {
        return lower;
    }

    private void when(boolean holds, int why) {
        if (holds) {
            reasons.add(why);
        }
    }

    /** Whether the call is fine, by the order of the STATUSES. */
    private boolean fine() {
        reasons.sort(null);
        return fineAsAsked();
    }

    /** Whether the call is fine, by the order in which the reasons were asked. */
    private boolean fineAsAsked() {
        status = reasons.isEmpty() ? 0 : reasons.get(0);
        reasons = new ArrayList<>();
        return status == 0;
    }

    private long missingAnswer(int why) {
        status = why;
        return -1;
    }

    private static boolean out(long v, long least, long greatest) {
        return v < least || v > greatest;
    }

    private Thing at(int thing) {
        return out(thing, 0, things.size() - 1) ? null : things.get(thing);
    }

    private List<Long> row(int tray) {
        return out(tray, 0, 3) ? null : trays.get(tray);
    }

    private boolean isMissing(int tray) {
        return !out(tray, 0, 3) && trays.get(tray) == null;
    }

    long tray(int tray, int sort, int many) {
        when(out(tray, 0, 3) || out(sort, 0, 3), 1);
        when(many > 40, 5);
        when(many < 0, 6);
        if (!fine()) {
            return 0;
        }
        trays.set(tray, new ArrayList<>());
        sorts[tray] = sort;
        for (int i = 0; i < many; i++) {
            trays.get(tray).add(0L);
        }
        return 1;
    }

    private boolean hasPlace(int tray, int place) {
        List<Long> row = row(tray);
        when(out(tray, 0, 3), 1);
        when(isMissing(tray), 3);
        when(row != null && out(place, 0, row.size() - 1), 4);
        return fine();
    }

    long write(int tray, int place, long v) {
        if (!hasPlace(tray, place)) {
            return 0;
        }
        int spare = 64 - (8 << sorts[tray]);
        row(tray).set(place, v << spare >> spare);
        return 1;
    }

    long read(int tray, int place) {
        return hasPlace(tray, place) ? row(tray).get(place) : -1;
    }

    long pour(int tray, int i, int to, int j, int many) {
        List<Long> from = row(tray);
        List<Long> into = row(to);
        when(out(tray, 0, 3) || out(to, 0, 3), 1);
        when(isMissing(tray) || isMissing(to), 3);
        if (from != null && into != null) {
            when(sorts[tray] != sorts[to], 11);
            when(many < 0, 6);
            when(i < 0 || j < 0 || (long) i + many > from.size() || (long) j + many > into.size(), 4);
        }
        if (!fineAsAsked()) {
            return 0;
        }
        List<Long> taken = new ArrayList<>(from.subList(i, i + many));
        for (int n = 0; n < many; n++) {
            into.set(j + n, taken.get(n));
        }
        return 1;
    }

    long thing(int level, int above) {
        Thing whole = at(above);
        when(out(level, 0, 3), 5);
        when(level == 0 && above != -1, 2);
        when(level != 0 && whole == null, 2);
        if (whole != null) {
            String fits = level + " in " + whole.level;
            when(!List.of("1 in 0", "2 in 1", "3 in 2", "3 in 1").contains(fits), 8);
        }
        when(things.size() >= 80, 7);
        if (!fineAsAsked()) {
            return -1;
        }
        Thing t = new Thing();
        t.number = things.size();
        t.level = level;
        t.above = whole;
        things.add(t);
        return t.number;
    }

    long told(int thing, int what) {
        Thing t = at(thing);
        when(t == null, 2);
        when(out(what, 0, 6), 5);
        if (!fine()) {
            return -1;
        }
        long rightIn = things.stream().filter(p -> p.above == t).count();
        Object[] all = {t.level, t.above == null ? null : t.above.number, rightIn, t.count,
            places.get(thing), goals.get(thing), t.mark};
        return all[what] == null ? -1 : ((Number) all[what]).longValue();
    }

    long say(int thing, int field, int number) {
        Thing t = at(thing);
        when(t == null || out(field, 0, 5), 2);
        when(out(number, -1, 999), 5);
        if (!fine()) {
            return 0;
        }
        t.said.remove(field);
        if (number >= 0) {
            t.said.put(field, number);
        }
        return 1;
    }

    long has(int thing, int field) {
        Thing t = at(thing);
        when(t == null || out(field, 0, 5), 2);
        when(t != null && t.has(field) == null, 9);
        return fine() ? t.has(field) : -1;
    }

    long span(int thing, int from, int to) {
        Thing t = at(thing);
        when(t == null, 2);
        when(out(from, 0, 100_000) || out(to, 0, 100_000) || from > to, 5);
        if (!fine()) {
            return 0;
        }
        t.span = new int[] {from, to};
        return 1;
    }

    long noSpan(int thing) {
        Thing t = at(thing);
        when(t == null, 2);
        when(t != null && t.span == null, 9);
        if (!fine()) {
            return 0;
        }
        t.span = null;
        return 1;
    }

    private int[] heldSpan(Thing t) {
        if (t.span != null) {
            return t.span;
        }
        int[] least = null;
        for (Thing part : things) {
            int[] span = part.above == t ? heldSpan(part) : null;
            if (span != null && least == null) {
                least = span;
            } else if (span != null) {
                least = new int[] {Math.min(least[0], span[0]), Math.max(least[1], span[1])};
            }
        }
        return least;
    }

    long held(int thing, boolean end) {
        Thing t = at(thing);
        when(t == null, 2);
        when(t != null && heldSpan(t) == null, 9);
        return fine() ? heldSpan(t)[end ? 1 : 0] : -1;
    }

    private boolean hasQuarrel(Thing t) {
        for (Thing w : t.line()) {
            if (t.span != null && w != t && w.span != null) {
                return !(w.span[0] <= t.span[0] && t.span[1] <= w.span[1]);
            }
        }
        return false;
    }

    long quarrel(int k) {
        List<Integer> all = new ArrayList<>();
        for (Thing t : things) {
            if (hasQuarrel(t)) {
                all.add(t.number);
            }
        }
        when(k < 0, 5);
        when(k >= all.size(), 9);
        return fine() ? all.get(k) : -1;
    }

    long count(int folder, int many) {
        Thing t = at(folder);
        when(t == null, 2);
        when(out(many, -1, 999), 5);
        when(t != null && t.level != 2, 8);
        if (!fine()) {
            return 0;
        }
        t.count = many == -1 ? null : many;
        return 1;
    }

    private Set<Integer> piece(int item) {
        Set<Integer> piece = new TreeSet<>(Set.of(item));
        for (int before = 0; before < piece.size();) {
            before = piece.size();
            for (int[] join : joins) {
                if (piece.contains(join[0]) || piece.contains(join[1])) {
                    piece.add(join[0]);
                    piece.add(join[1]);
                }
            }
        }
        return piece;
    }

    long join(int a, int b) {
        Thing one = at(a);
        Thing other = at(b);
        when(one == null || other == null, 2);
        when(one != null && one.level != 3 || other != null && other.level != 3, 8);
        when(a == b, 5);
        when(piece(a).contains(b), 10);
        if (!fine()) {
            return 0;
        }
        joins.add(new int[] {a, b});
        return 1;
    }

    long close(int thing, int day, int but) {
        Thing t = at(thing);
        when(t == null, 2);
        when(out(day, -1, 200_000) || out(but, 0, 65_535), 5);
        if (!fine()) {
            return 0;
        }
        t.closed = day == -1 ? null : new int[] {day, but};
        return 1;
    }

    long sees(int thing, int person, int day) {
        Thing t = at(thing);
        when(t == null || out(person, 0, 15), 2);
        when(out(day, 0, 300_000), 5);
        return !fine() ? -1 : t.seen(person, day) ? 1 : 0;
    }

    long number(int thing, int level, int person, int day) {
        Thing whole = at(thing);
        when(whole == null || out(person, 0, 15), 2);
        when(out(level, 0, 3) || out(day, 0, 300_000), 5);
        if (!fine()) {
            return -1;
        }
        long counts = 0;
        Set<Set<Integer>> seen = new HashSet<>();
        for (Thing t : things) {
            if (t.line().contains(whole) && t.seen(person, day)) {
                if (t.level == level) {
                    seen.add(level == 3 ? piece(t.number) : Set.of(t.number));
                }
                counts += t.count != null && level == 3 ? t.count : 0;
            }
        }
        return seen.size() + counts;
    }

    long find(int field, int number, int person, int day, int tray) {
        when(out(tray, 0, 3), 1);
        when(out(field, 0, 5) || out(person, 0, 15), 2);
        when(isMissing(tray), 3);
        when(out(number, 0, 999) || out(day, 0, 300_000), 5);
        if (!fine()) {
            return -1;
        }
        List<Integer> found = new ArrayList<>();
        for (Thing t : things) {
            if (t.level == 3 && t.seen(person, day) && t.has(field) != null && t.has(field) == number) {
                found.add(t.number);
            }
        }
        for (int i = 0; i < Math.min(found.size(), row(tray).size()); i++) {
            row(tray).set(i, (long) found.get(i));
        }
        return found.size();
    }

    long mark(int thing, int mark) {
        Thing t = at(thing);
        when(t == null, 2);
        when(out(mark, -1, 9_999), 5);
        for (Thing other : things) {
            when(other != t && other.mark != null && other.mark == mark, 10);
        }
        if (!fine()) {
            return 0;
        }
        t.mark = mark == -1 ? null : mark;
        return 1;
    }

    long walk(int k, int person, int day) {
        when(out(person, 0, 15), 2);
        when(k < 0 || out(day, 0, 300_000), 5);
        if (!fine()) {
            return -1;
        }
        Map<Integer, Integer> walk = new TreeMap<>();
        for (Thing t : things) {
            if (t.mark != null && t.seen(person, day)) {
                walk.put(t.mark, t.number);
            }
        }
        return k < walk.size() ? new ArrayList<>(walk.values()).get(k) : missingAnswer(9);
    }

    /** With whom each THING is at a tick by entries of its own, the LOG being gone through from its beginning. */
    private Map<Integer, Integer> outAt(int tick) {
        Map<Integer, Integer> with = new TreeMap<>();
        for (int[] entry : log) {
            if (entry[2] <= tick) {
                with.remove(entry[0]);
                if (entry[1] >= 0) {
                    with.put(entry[0], entry[1]);
                }
            }
        }
        return with;
    }

    private void whenNoEntry(int tick) {
        when(out(tick, 0, 100_000) || !log.isEmpty() && tick < log.get(log.size() - 1)[2], 5);
        when(log.size() >= 200, 7);
    }

    long fetch(int thing, int person, int tick) {
        when(at(thing) == null || out(person, 0, 15), 2);
        whenNoEntry(tick);
        when(outAt(100_000).containsKey(thing), 10);
        if (!fine()) {
            return 0;
        }
        log.add(new int[] {thing, person, tick});
        return 1;
    }

    long back(int thing, int tick) {
        when(at(thing) == null, 2);
        whenNoEntry(tick);
        when(!outAt(100_000).containsKey(thing), 10);
        if (!fine()) {
            return 0;
        }
        log.add(new int[] {thing, -1, tick});
        return 1;
    }

    long where(int thing, int tick) {
        when(at(thing) == null, 2);
        when(out(tick, 0, 100_000), 5);
        if (!fine()) {
            return -1;
        }
        Map<Integer, Integer> with = outAt(tick);
        for (Thing t : at(thing).line()) {
            if (with.containsKey(t.number)) {
                return with.get(t.number);
            }
        }
        return -1;
    }

    private long settle(Map<Integer, Integer> map, int box, int place) {
        Thing t = at(box);
        when(t == null || out(place, -1, 39), 2);
        when(t != null && t.level != 1, 8);
        map.forEach((other, its) -> when(other != box && its == place, 10));
        if (!fine()) {
            return 0;
        }
        map.remove(box);
        if (place != -1) {
            map.put(box, place);
        }
        return 1;
    }

    long stand(int box, int place) {
        return settle(places, box, place);
    }

    long goal(int box, int place) {
        return settle(goals, box, place);
    }

    private static Set<Integer> empty(Map<Integer, Integer> standing) {
        Set<Integer> empty = new TreeSet<>();
        for (int place = 0; place < 40; place++) {
            empty.add(place);
        }
        empty.removeAll(standing.values());
        return empty;
    }

    private Set<Integer> astray(Map<Integer, Integer> standing) {
        Set<Integer> astray = new TreeSet<>(standing.keySet());
        astray.retainAll(goals.keySet());
        astray.removeIf(box -> standing.get(box).equals(goals.get(box)));
        return astray;
    }

    private boolean canMove() {
        for (int box : places.keySet()) {
            for (int other : places.keySet()) {
                if (goals.containsKey(box) && !goals.containsKey(other) && goals.get(box).equals(places.get(other))) {
                    return false;
                }
            }
        }
        return astray(places).isEmpty() || !empty(places).isEmpty();
    }

    /** BOX, from where, to where; null if the MOVE can't be. */
    private List<int[]> carries() {
        if (!canMove()) {
            return null;
        }
        List<int[]> carries = new ArrayList<>();
        Map<Integer, Integer> standing = new TreeMap<>(places);
        while (!astray(standing).isEmpty()) {
            Set<Integer> empty = empty(standing);
            int[] carry = null;
            for (int box : astray(standing)) {
                if (carry == null && empty.contains(goals.get(box))) {
                    carry = new int[] {box, standing.get(box), goals.get(box)};
                }
            }
            if (carry == null) {
                int box = astray(standing).iterator().next();
                carry = new int[] {box, standing.get(box), empty.iterator().next()};
            }
            carries.add(carry);
            standing.put(carry[0], carry[2]);
        }
        return carries;
    }

    long plan() {
        List<int[]> carries = carries();
        when(carries == null, 12);
        return fine() ? carries.size() : -1;
    }

    long carry(int k, int what) {
        List<int[]> carries = carries();
        when(carries == null, 12);
        when(carries != null && out(k, 0, carries.size() - 1), 9);
        when(out(what, 0, 2), 5);
        return fineAsAsked() ? carries.get(k)[what] : -1;
    }

    long carried() {
        List<int[]> carries = carries();
        when(carries == null, 12);
        if (!fine()) {
            return 0;
        }
        for (int[] carry : carries) {
            places.put(carry[0], carry[2]);
        }
        return 1;
    }

    long search(int tray, int many, int k) {
        List<Long> row = row(tray);
        when(out(tray, 0, 3), 1);
        when(isMissing(tray), 3);
        when(out(many, 1, 20), 5);
        when(row != null && row.size() < 2L * many, 4);
        if (!fineAsAsked()) {
            return -1;
        }
        List<Integer> order = new ArrayList<>();
        for (int i = 0; i < many; i++) {
            when(out(row.get(2 * i), 1, 999) || out(row.get(2 * i + 1), 1, 999), 5);
            order.add(i);
        }
        when(out(k, 0, many - 1), 9);
        if (!fineAsAsked()) {
            return -1;
        }
        order.sort((a, b) -> Long.compare(row.get(2 * a + 1) * row.get(2 * b), row.get(2 * b + 1) * row.get(2 * a)));
        tellMean(row, order);
        return order.get(k);
    }

    private void tellMean(List<Long> row, List<Integer> order) {
        upper = 0;
        lower = 0;
        for (int i = order.size() - 1; i >= 0; i--) {
            lower += row.get(2 * order.get(i));
            upper += row.get(2 * order.get(i) + 1) * lower;
        }
        for (long divisor = lower; divisor > 1; divisor--) {
            if (lower % divisor == 0 && upper % divisor == 0) {
                lower /= divisor;
                upper /= divisor;
            }
        }
    }
}
