/** ==== 1: "rows of numbers of 8 bits (sort 0), 16 (1), 32 (2) or 64 (3), with sign; what is written is cut to these". */
public final class CutNumbersTest {
    private static final int[] BITS = {8, 16, 32, 64};

    private static final Checks c = new Checks();

    public static void main(String[] args) {
        for (int sort = 0; sort < 4; sort++) {
            lastOnesKept(sort, BITS[sort]);
            neighboursStay(sort);
        }
        for (int sort = 0; sort < 3; sort++) {
            firstOnesCut(sort, BITS[sort]);
        }
        nothingIsCutOf64();
        poured();
        foundInTheNarrowest();
        searchedAsCut();
        sortOfANewRow();
        c.end();
    }

    private static void kept(String what, int sort, long v, long want) {
        BoxArchive x = new BoxArchive();
        x.tray(sort, sort, 1);
        String label = "4: sort " + sort + ", " + what + ", " + v;
        c.does(label, x, x.write(sort, 0, v));
        c.gives(label + ", read", x, x.read(sort, 0), want);
    }

    private static void lastOnesKept(int sort, int bits) {
        long greatest = -1L >>> (65 - bits);
        long least = -greatest - 1;
        kept("the greatest", sort, greatest, greatest);
        kept("the least", sort, least, least);
        kept("0", sort, 0, 0);
        kept("1", sort, 1, 1);
        kept("-1, with sign", sort, -1, -1);
    }

    private static void firstOnesCut(int sort, int bits) {
        long half = 1L << (bits - 1);
        long whole = 1L << bits;
        kept("one above the greatest is the least", sort, half, -half);
        kept("one below the least is the greatest", sort, -half - 1, half - 1);
        kept("all bits are -1", sort, whole - 1, -1);
        kept("one bit more is 0", sort, whole, 0);
        kept("and 1 more is 1", sort, whole + 1, 1);
        kept("the same below 0", sort, -whole, 0);
        kept("the same below 0, less 1", sort, -whole - 1, -1);
        kept("the greatest long", sort, Long.MAX_VALUE, -1);
        kept("the least long", sort, Long.MIN_VALUE, 0);
        kept("the least long and the greatest", sort, Long.MIN_VALUE + half - 1, half - 1);
        kept("higher bits don't matter", sort, 0x5555_5555_5555_5555L << bits | 5, 5);
    }

    private static void nothingIsCutOf64() {
        for (int bit = 0; bit < 64; bit++) {
            kept("bit " + bit, 3, 1L << bit, 1L << bit);
        }
    }

    private static void neighboursStay(int sort) {
        BoxArchive x = new BoxArchive();
        x.tray(0, sort, 3);
        x.write(0, 0, 1);
        x.write(0, 2, 2);
        x.write(0, 1, Long.MIN_VALUE + 300);
        c.gives("4: the place ahead", x, x.read(0, 0), 1);
        c.gives("4: the place behind", x, x.read(0, 2), 2);
    }

    /** "come to place j on of another one, or the same, as they were". */
    private static void poured() {
        for (int sort = 0; sort < 4; sort++) {
            long least = -1L << (BITS[sort] - 1);
            BoxArchive x = new BoxArchive();
            x.tray(0, sort, 2);
            x.tray(1, sort, 2);
            x.write(0, 0, least);
            x.write(0, 1, -1 - least);
            c.does("6: the last ones", x, x.pour(0, 0, 1, 0, 2));
            c.gives("6: the least", x, x.read(1, 0), least);
            c.gives("6: the greatest", x, x.read(1, 1), -1 - least);
        }
    }

    private static void foundInTheNarrowest() {
        BoxArchive x = World.FULL_ARCHIVE.ours();
        x.say(79, 5, 1);
        x.tray(0, 0, 1);
        c.gives("20: the last THING", x, x.find(5, 1, 0, 0, 0), 1);
        c.gives("20: its number isn't cut", x, x.read(0, 0), 79);
    }

    private static void searchedAsCut() {
        BoxArchive x = new BoxArchive();
        x.tray(0, 0, 2);
        x.write(0, 0, 256 + 3);
        x.write(0, 1, 127);
        c.gives("31: a WEIGHT that was cut to 3", x, x.search(0, 1, 0), 0);
        c.due("32: a COST of 127", x.upper(), 127);
        x.write(0, 1, 128);
        c.refuses("31: a COST that was cut to -128", x, x.search(0, 1, 0), 5);
        x.write(0, 1, 999);
        c.refuses("31: a COST that was cut to -25", x, x.search(0, 1, 0), 5);
        x.write(0, 1, 256);
        c.refuses("31: a COST that was cut to 0", x, x.search(0, 1, 0), 5);
    }

    /** A row made anew has its own sort, not the former one's. */
    private static void sortOfANewRow() {
        BoxArchive x = new BoxArchive();
        long[] want = {-1, -1, -1, 0xFFFF_FFFF_FFFFL};
        for (int sort : new int[] {3, 0, 2, 1, 3}) {
            x.tray(0, sort, 1);
            x.write(0, 0, 0xFFFF_FFFF_FFFFL);
            c.gives("3: sort " + sort + " behind another one", x, x.read(0, 0), want[sort]);
        }
    }
}
