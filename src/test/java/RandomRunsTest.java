import java.util.Random;

/** Promises 1 to 33: long runs of calls by lot, with edges and wrong inputs among them, against PlainArchive. */
public final class RandomRunsTest {
    private static final int RUNS = 1_500;
    /** With the three calls that look at each and the one at the beginning these are 509, below the document's 512. */
    private static final int CALLS = 127;
    private static final int[] WILD = {
        Integer.MIN_VALUE, Integer.MIN_VALUE + 1, -2, -1, 0, 1, 40, 41, 80, 999, 1000, 9_999, 10_000, 65_535, 65_536,
        100_000, 100_001, 200_000, 200_001, 300_000, 300_001, Integer.MAX_VALUE - 1, Integer.MAX_VALUE,
    };

    private final Random random;
    private final BoxArchive x = new BoxArchive();
    private final PlainArchive y = new PlainArchive();
    /** How eager the run is for some kinds of calls, so that runs are unlike one another. */
    private final int leaning;
    private int things = 0;
    private int tick = 0;
    private String call = "";
    private long got = 0;
    private long want = 0;

    private RandomRunsTest(int seed) {
        random = new Random(seed);
        leaning = seed % 6;
    }

    public static void main(String[] args) {
        Checks c = new Checks();
        for (int seed = 0; seed < RUNS; seed++) {
            new RandomRunsTest(seed).run(c, seed);
        }
        c.end();
    }

    private void run(Checks c, int seed) {
        if (leaning != 0) {
            x.tray(0, 2, 6);
            y.tray(0, 2, 6);
        }
        for (int i = 0; i < CALLS; i++) {
            next();
            String what = "run " + seed + ", call " + i + ", " + call;
            c.due(what, got, want);
            c.due(what + ", its STATUS", x.status(), y.status());
            c.due(what + ", upper", x.upper(), y.upper());
            c.due(what + ", lower", x.lower(), y.lower());
        }
    }

    private void next() {
        if (random.nextInt(4) == 0) {
            grow();
            return;
        }
        int kind = random.nextInt(3) == 0 ? random.nextInt(5) : leaning;
        switch (kind) {
            case 0:
                trays();
                break;
            case 1:
                said();
                break;
            case 2:
                sight();
                break;
            case 3:
                log();
                break;
            case 4:
                shelves();
                break;
            default:
                searches();
                break;
        }
    }

    private void tell(String name, long ours, long theirs, long... args) {
        StringBuilder text = new StringBuilder(name).append('(');
        for (int i = 0; i < args.length; i++) {
            text.append(i == 0 ? "" : ", ").append(args[i]);
        }
        call = text.append(')').toString();
        got = ours;
        want = theirs;
    }

    private static long bit(boolean v) {
        return v ? 1 : 0;
    }

    /** Mostly from least to greatest, now and then anything. */
    private int pick(int least, int greatest) {
        if (random.nextInt(40) == 0) {
            return WILD[random.nextInt(WILD.length)];
        }
        if (random.nextInt(20) == 0) {
            return random.nextBoolean() ? least - 1 : greatest + 1;
        }
        return least + random.nextInt(greatest - least + 1);
    }

    private int aThing() {
        return pick(0, Math.max(0, things - 1));
    }

    private int aDay() {
        return random.nextInt(10) == 0 ? pick(0, 300_000) : pick(0, 12);
    }

    private int aTray() {
        return pick(0, 3);
    }

    /** Mostly one of two, so that what is SAID is asked for again. */
    private int aField() {
        return random.nextInt(4) == 0 ? pick(0, 5) : random.nextInt(2);
    }

    private int aNumber() {
        return random.nextInt(4) == 0 ? pick(-1, 999) : random.nextInt(3);
    }

    private void grow() {
        int level = random.nextInt(8) == 0 ? pick(0, 3) : Math.min(3, things);
        int above = level == 0 && random.nextInt(8) != 0 ? -1 : aThing();
        if (leaning == 4 && things > 0) {
            level = 1;
            above = 0;
        }
        tell("thing", x.thing(level, above), y.thing(level, above), level, above);
        things = got >= 0 ? (int) got + 1 : things;
    }

    private void trays() {
        int tray = aTray();
        int place = pick(0, 8);
        switch (random.nextInt(5)) {
            case 0: {
                int sort = pick(0, 3);
                int many = random.nextInt(8) == 0 ? pick(0, 40) : pick(4, 9);
                tell("tray", bit(x.tray(tray, sort, many)), y.tray(tray, sort, many), tray, sort, many);
                break;
            }
            case 1:
            case 2: {
                long v = random.nextLong() >> random.nextInt(64);
                tell("write", bit(x.write(tray, place, v)), y.write(tray, place, v), tray, place, v);
                break;
            }
            case 3:
                tell("read", x.read(tray, place), y.read(tray, place), tray, place);
                break;
            default: {
                int to = random.nextBoolean() ? tray : aTray();
                int j = pick(0, 6);
                int many = pick(0, 5);
                tell("pour", bit(x.pour(tray, place, to, j, many)), y.pour(tray, place, to, j, many),
                    tray, place, to, j, many);
                break;
            }
        }
    }

    private void said() {
        int thing = aThing();
        switch (random.nextInt(9)) {
            case 0:
                say(thing);
                break;
            case 1: {
                int field = aField();
                tell("has", x.has(thing, field), y.has(thing, field), thing, field);
                break;
            }
            case 2:
            case 3: {
                int from = pick(0, 50);
                int to = random.nextInt(5) == 0 ? pick(0, 100_000) : pick(30, 80);
                tell("span", bit(x.span(thing, from, to)), y.span(thing, from, to), thing, from, to);
                break;
            }
            case 4:
                tell("noSpan", bit(x.noSpan(thing)), y.noSpan(thing), thing);
                break;
            case 5: {
                boolean end = random.nextBoolean();
                tell("held", x.held(thing, end), y.held(thing, end), thing, bit(end));
                break;
            }
            case 6: {
                int k = pick(0, 4);
                tell("quarrel", x.quarrel(k), y.quarrel(k), k);
                break;
            }
            case 7: {
                int what = pick(0, 6);
                tell("told", x.told(thing, what), y.told(thing, what), thing, what);
                break;
            }
            default: {
                int many = pick(-1, 999);
                tell("count", bit(x.count(thing, many)), y.count(thing, many), thing, many);
                break;
            }
        }
    }

    private void say(int thing) {
        int field = aField();
        int number = aNumber();
        tell("say", bit(x.say(thing, field, number)), y.say(thing, field, number), thing, field, number);
    }

    private void sight() {
        int thing = aThing();
        int person = pick(0, 15);
        int day = aDay();
        switch (random.nextInt(9)) {
            case 8:
                say(thing);
                break;
            case 0: {
                int until = random.nextInt(8) == 0 ? pick(-1, 200_000) : pick(-1, 12);
                int but = pick(0, 65_535);
                tell("close", bit(x.close(thing, until, but)), y.close(thing, until, but), thing, until, but);
                break;
            }
            case 1:
                tell("sees", x.sees(thing, person, day), y.sees(thing, person, day), thing, person, day);
                break;
            case 2:
            case 3: {
                int level = pick(0, 3);
                tell("number", x.number(thing, level, person, day), y.number(thing, level, person, day),
                    thing, level, person, day);
                break;
            }
            case 4: {
                int field = aField();
                int number = aNumber();
                int tray = random.nextInt(8) == 0 ? aTray() : 0;
                tell("find", x.find(field, number, person, day, tray), y.find(field, number, person, day, tray),
                    field, number, person, day, tray);
                break;
            }
            case 5: {
                int mark = pick(-1, 20);
                tell("mark", bit(x.mark(thing, mark)), y.mark(thing, mark), thing, mark);
                break;
            }
            case 6: {
                int k = pick(0, 8);
                tell("walk", x.walk(k, person, day), y.walk(k, person, day), k, person, day);
                break;
            }
            default: {
                int other = aThing();
                tell("join", bit(x.join(thing, other)), y.join(thing, other), thing, other);
                break;
            }
        }
    }

    private void log() {
        int thing = aThing();
        int at = random.nextInt(10) == 0 ? pick(0, 100_000) : tick + random.nextInt(3);
        switch (random.nextInt(3)) {
            case 0: {
                int person = pick(0, 15);
                if (random.nextInt(20) != 0) {
                    at = Math.min(at, 3_000);
                }
                tell("fetch", bit(x.fetch(thing, person, at)), y.fetch(thing, person, at), thing, person, at);
                tick = got == 1 ? at : tick;
                break;
            }
            case 1:
                tell("back", bit(x.back(thing, at)), y.back(thing, at), thing, at);
                tick = got == 1 ? at : tick;
                break;
            default: {
                int then = random.nextBoolean() ? at : pick(0, tick);
                tell("where", x.where(thing, then), y.where(thing, then), thing, then);
                break;
            }
        }
    }

    private void shelves() {
        int box = aThing();
        int place = random.nextInt(4) == 0 ? pick(-1, 39) : pick(0, 8);
        switch (random.nextInt(24)) {
            case 0:
                tell("carried", bit(x.carried()), y.carried());
                break;
            case 1:
            case 2:
                tell("plan", x.plan(), y.plan());
                break;
            default: {
                int kind = random.nextInt(5);
                if (kind < 2) {
                    tell("stand", bit(x.stand(box, place)), y.stand(box, place), box, place);
                } else if (kind < 4) {
                    tell("goal", bit(x.goal(box, place)), y.goal(box, place), box, place);
                } else {
                    int k = pick(0, 3);
                    int what = pick(0, 2);
                    tell("carry", x.carry(k, what), y.carry(k, what), k, what);
                }
                break;
            }
        }
    }

    private void searches() {
        int tray = random.nextInt(10) == 0 ? aTray() : 0;
        switch (random.nextInt(6)) {
            case 0: {
                int many = random.nextInt(20) == 0 ? pick(1, 20) : pick(1, 4);
                int k = pick(0, 3);
                tell("search", x.search(tray, many, k), y.search(tray, many, k), tray, many, k);
                break;
            }
            case 1: {
                if (y.status() == 3 || random.nextInt(30) == 0) {
                    int sort = pick(0, 3);
                    tell("tray", bit(x.tray(tray, sort, 8)), y.tray(tray, sort, 8), tray, sort, 8);
                    break;
                }
                int k = pick(0, 1);
                tell("search", x.search(tray, 2, k), y.search(tray, 2, k), tray, 2, k);
                break;
            }
            default: {
                int place = pick(0, 7);
                long v = random.nextInt(12) == 0 ? pick(1, 999) : pick(1, 9);
                tell("write", bit(x.write(tray, place, v)), y.write(tray, place, v), tray, place, v);
                break;
            }
        }
    }
}
