import java.math.BigInteger;
import java.util.Random;

/** Promises 31 to 33: search, upper, lower. */
public final class SearchTest {
    private static final Checks c = new Checks();

    public static void main(String[] args) {
        ordinary();
        likePlaces();
        allAlike();
        almostLike();
        mostPlaces();
        fractionWithoutCommonDivisor();
        fractionOfEveryPlace();
        refused();
        numbersThatCannotBe();
        fractionStaysWhenRefused();
        sortsOfTrays();
        againstAllOrders();
        c.end();
    }

    private static void row(BoxArchive x, int tray, int sort, int... numbers) {
        x.tray(tray, sort, numbers.length);
        for (int i = 0; i < numbers.length; i++) {
            x.write(tray, i, numbers[i]);
        }
    }

    private static void orderIs(String what, BoxArchive x, int tray, int... want) {
        for (int k = 0; k < want.length; k++) {
            c.gives(what + ", k " + k, x, x.search(tray, want.length, k), want[k]);
        }
        c.refuses(what + ", its end", x, x.search(tray, want.length, want.length), 9);
    }

    private static void meanIs(String what, BoxArchive x, long upper, long lower) {
        c.due("32: " + what, x.upper(), upper);
        c.due("33: " + what, x.lower(), lower);
    }

    private static void ordinary() {
        BoxArchive x = new BoxArchive();
        row(x, 0, 2, 1, 10, 5, 10, 5, 1);
        orderIs("31: less COST for its WEIGHT ahead", x, 0, 2, 1, 0);
        meanIs("5 * 1 + 5 * 11 + 1 * 21 by 11", x, 81, 11);
        orderIs("31: the first two alone", x, 0, 1, 0);
        meanIs("5 * 10 + 1 * 20 by 6", x, 35, 3);
        orderIs("31: one alone", x, 0, 0);
        meanIs("10 by 1", x, 10, 1);
    }

    private static void likePlaces() {
        BoxArchive x = new BoxArchive();
        row(x, 0, 1, 2, 4, 999, 999, 1, 2, 3, 6, 5, 5);
        orderIs("31: of like ones the lesser number ahead", x, 0, 1, 4, 0, 2, 3);
    }

    private static void allAlike() {
        for (int v : new int[] {1, 999}) {
            int[] numbers = new int[40];
            int[] want = new int[20];
            for (int i = 0; i < 20; i++) {
                numbers[2 * i] = v;
                numbers[2 * i + 1] = v;
                want[i] = i;
            }
            BoxArchive x = new BoxArchive();
            row(x, 0, 1, numbers);
            orderIs("31: all alike", x, 0, want);
            meanIs("v * 210 by 20", x, v * 21, 2);
        }
    }

    /** 997 by 998 is less than 998 by 999, by a millionth. */
    private static void almostLike() {
        BoxArchive x = new BoxArchive();
        row(x, 0, 1, 999, 998, 998, 997);
        orderIs("31: a millionth less is ahead", x, 0, 1, 0);
        row(x, 0, 1, 998, 997, 999, 998);
        orderIs("31: a millionth less is ahead", x, 0, 0, 1);
        row(x, 0, 1, 1, 999, 999, 1, 1, 1, 999, 999);
        orderIs("31: from end to end", x, 0, 1, 2, 3, 0);
    }

    /** "an upper and a lower number without a common divisor". */
    private static void fractionWithoutCommonDivisor() {
        int[][] rows = {
            {1, 1, 1, 1}, {999, 1, 1, 1}, {1, 999, 999, 1}, {6, 4, 4, 6, 2, 2}, {7, 7}, {3, 1, 3, 1}, {5, 2, 5, 3}, {1, 1, 2, 2},
        };
        long[][] means = {
            {3, 2}, {1001, 1000}, {1999, 1000}, {7, 1}, {7, 1}, {3, 2}, {7, 2}, {7, 3},
        };
        for (int i = 0; i < rows.length; i++) {
            BoxArchive x = new BoxArchive();
            row(x, 0, 2, rows[i]);
            c.gives("31: row " + i, x, x.search(0, rows[i].length / 2, 0) >= 0 ? 1 : 0, 1);
            meanIs("row " + i, x, means[i][0], means[i][1]);
        }
    }

    /** The FRACTION is the mean of the whole SEARCH, whichever place is asked for. */
    private static void fractionOfEveryPlace() {
        for (int k = 0; k < 3; k++) {
            BoxArchive x = new BoxArchive();
            row(x, 0, 2, 1, 10, 5, 10, 5, 1);
            x.search(0, 3, k);
            meanIs("k " + k, x, 81, 11);
        }
    }

    private static void mostPlaces() {
        BoxArchive x = new BoxArchive();
        int[] numbers = new int[40];
        int[] want = new int[20];
        for (int i = 0; i < 20; i++) {
            numbers[2 * i] = 999;
            numbers[2 * i + 1] = 999 - i;
            want[i] = 19 - i;
        }
        row(x, 3, 3, numbers);
        orderIs("31: twenty", x, 3, want);
        long sum = 0;
        for (int i = 0; i < 20; i++) {
            sum += (long) (20 - i) * (980 + i);
        }
        meanIs("twenty", x, sum / 10, 2);
    }

    private static void refused() {
        BoxArchive x = new BoxArchive();
        row(x, 0, 2, 1, 1, 0, 1, 1);
        c.refuses("31: no such TRAY", x, x.search(4, 1, 0), 1);
        c.refuses("31: no such TRAY, ahead of 5", x, x.search(-1, 0, 0), 1);
        c.refuses("31: MISSING", x, x.search(1, 1, 0), 3);
        c.refuses("31: MISSING, ahead of 5", x, x.search(1, 21, 0), 3);
        c.refuses("31: no places", x, x.search(0, 0, 0), 5);
        c.refuses("31: places below 0", x, x.search(0, Integer.MIN_VALUE, 0), 5);
        c.refuses("31: 21 places, ahead of 4", x, x.search(0, 21, 0), 5);
        c.refuses("31: as many as can be", x, x.search(0, Integer.MAX_VALUE, 0), 5);
        c.refuses("31: more than the TRAY has", x, x.search(0, 20, 0), 4);
        c.refuses("31: half a place more than the TRAY has, ahead of a number", x, x.search(0, 3, 0), 4);
        c.refuses("31: a number", x, x.search(0, 2, 0), 5);
        c.refuses("31: a number, ahead of 9", x, x.search(0, 2, 2), 5);
        c.refuses("31: k too great", x, x.search(0, 1, 1), 9);
        c.refuses("31: k below 0", x, x.search(0, 1, -1), 9);
        c.gives("31: numbers behind are no matter", x, x.search(0, 1, 0), 0);
    }

    private static void numbersThatCannotBe() {
        for (int place = 0; place < 4; place++) {
            for (long v : new long[] {0, -1, 1000, 1L << 32, Long.MIN_VALUE, Long.MAX_VALUE}) {
                BoxArchive x = new BoxArchive();
                row(x, 0, 3, 1, 1, 1, 1);
                x.write(0, place, v);
                c.refuses("31: " + v + " in place " + place, x, x.search(0, 2, 0), 5);
            }
        }
    }

    private static void fractionStaysWhenRefused() {
        BoxArchive x = new BoxArchive();
        row(x, 0, 2, 3, 7, 2, 9);
        x.search(0, 2, 0);
        meanIs("3 * 7 + 2 * 16 by 5", x, 53, 5);
        x.search(0, 1, 1);
        meanIs("behind 9", x, 53, 5);
        x.search(0, 3, 0);
        meanIs("behind 4", x, 53, 5);
        x.write(0, 3, 0);
        x.search(0, 2, 0);
        meanIs("behind 5", x, 53, 5);
        x.tray(0, 0, 0);
        x.plan();
        meanIs("behind other calls", x, 53, 5);
    }

    private static void sortsOfTrays() {
        for (int sort = 0; sort < 4; sort++) {
            BoxArchive x = new BoxArchive();
            row(x, sort, sort, 4, 127, 2, 3);
            orderIs("31: sort " + sort, x, sort, 1, 0);
            meanIs("2 * 3 + 4 * 130 by 6", x, 263, 3);
        }
    }

    private static void againstAllOrders() {
        Random random = new Random(1);
        for (int run = 0; run < 300; run++) {
            int many = 1 + random.nextInt(6);
            int greatest = random.nextBoolean() ? 4 : 999;
            int[] numbers = new int[2 * many];
            for (int i = 0; i < numbers.length; i++) {
                numbers[i] = 1 + random.nextInt(greatest);
            }
            AllOrders all = new AllOrders(numbers);
            BoxArchive x = new BoxArchive();
            row(x, 0, 2, numbers);
            orderIs("31: run " + run, x, 0, all.best);
            long divisor = BigInteger.valueOf(all.least).gcd(BigInteger.valueOf(all.weights)).longValue();
            meanIs("run " + run, x, all.least / divisor, all.weights / divisor);
        }
    }

    /** Goes through all orders by number, so that of several that are best the first stays. */
    private static final class AllOrders {
        private final int[] numbers;
        private final int[] order;
        int[] best;
        long least = Long.MAX_VALUE;
        long weights = 0;

        AllOrders(int[] numbers) {
            this.numbers = numbers;
            this.order = new int[numbers.length / 2];
            for (int i = 0; i < order.length; i++) {
                weights += numbers[2 * i];
            }
            look(0, 0, 0, 0);
        }

        private void look(int at, int used, long spent, long sum) {
            if (at == order.length) {
                if (sum < least) {
                    least = sum;
                    best = order.clone();
                }
                return;
            }
            for (int i = 0; i < order.length; i++) {
                if ((used >> i & 1) == 0) {
                    order[at] = i;
                    long more = spent + numbers[2 * i + 1];
                    look(at + 1, used | 1 << i, more, sum + numbers[2 * i] * more);
                }
            }
        }
    }
}
