/** Promises 3 to 6: tray, write, read, pour. */
public final class TraysTest {
    private static final Checks c = new Checks();

    public static void main(String[] args) {
        tray();
        trayRefused();
        cut();
        writeAndReadRefused();
        pour();
        pourRefused();
        pourOfNothing();
        c.end();
    }

    private static void tray() {
        BoxArchive x = new BoxArchive();
        c.does("3: the longest", x, x.tray(3, 3, 40));
        c.gives("3: all 0", x, x.read(3, 39), 0);
        c.does("4: its last place", x, x.write(3, 39, 7));
        c.gives("5: its last place", x, x.read(3, 39), 7);
        c.does("3: the same one anew", x, x.tray(3, 3, 40));
        c.gives("3: all 0 again", x, x.read(3, 39), 0);
        c.does("3: the shortest", x, x.tray(3, 0, 0));
        c.refuses("3: it has no place", x, x.read(3, 0), 4);
        c.refuses("3: the others are MISSING still", x, x.read(2, 0), 3);
    }

    private static void trayRefused() {
        BoxArchive x = new BoxArchive();
        c.does("3: one to keep", x, x.tray(0, 1, 2));
        x.write(0, 1, 9);
        c.refuses("3: no such TRAY", x, x.tray(4, 0, 1), 1);
        c.refuses("3: no such TRAY below", x, x.tray(-1, 0, 1), 1);
        c.refuses("3: no such sort", x, x.tray(0, 4, 1), 1);
        c.refuses("3: no such sort below", x, x.tray(0, -1, 1), 1);
        c.refuses("3: too long", x, x.tray(0, 0, 41), 5);
        c.refuses("3: below 0", x, x.tray(0, 0, -1), 6);
        c.refuses("3: 1 ahead of 5", x, x.tray(4, 0, 41), 1);
        c.refuses("3: 1 ahead of 6", x, x.tray(0, 4, -1), 1);
        c.refuses("3: the least length", x, x.tray(0, 0, Integer.MIN_VALUE), 6);
        c.gives("3: a refused one leaves the TRAY", x, x.read(0, 1), 9);
    }

    private static void cut() {
        long v = 0x123456789ABCDEF0L;
        long[] kept = {(byte) v, (short) v, (int) v, v};
        long[] least = {-128, -32768, Integer.MIN_VALUE, Long.MIN_VALUE};
        BoxArchive x = new BoxArchive();
        for (int sort = 0; sort < 4; sort++) {
            x.tray(sort, sort, 3);
            c.does("4: a number that is cut", x, x.write(sort, 0, v));
            c.gives("4: cut", x, x.read(sort, 0), kept[sort]);
            x.write(sort, 1, least[sort]);
            c.gives("4: the least", x, x.read(sort, 1), least[sort]);
            x.write(sort, 1, least[sort] - 1);
            c.gives("4: one below is the greatest", x, x.read(sort, 1), -(least[sort] + 1));
            x.write(sort, 2, -1);
            c.gives("5: -1 with STATUS 0", x, x.read(sort, 2), -1);
        }
    }

    private static void writeAndReadRefused() {
        BoxArchive x = new BoxArchive();
        x.tray(0, 2, 5);
        for (int tray : new int[] {-1, 4, Integer.MAX_VALUE, Integer.MIN_VALUE}) {
            c.refuses("4: no such TRAY", x, x.write(tray, 0, 1), 1);
            c.refuses("5: no such TRAY", x, x.read(tray, 0), 1);
        }
        c.refuses("4: MISSING, ahead of the place", x, x.write(1, -1, 1), 3);
        c.refuses("5: MISSING, ahead of the place", x, x.read(1, 40), 3);
        for (int place : new int[] {-1, 5, 40, Integer.MAX_VALUE, Integer.MIN_VALUE}) {
            c.refuses("4: no such place", x, x.write(0, place, 1), 4);
            c.refuses("5: no such place", x, x.read(0, place), 4);
        }
    }

    private static BoxArchive withRow(int sort, int many) {
        BoxArchive x = new BoxArchive();
        x.tray(0, sort, many);
        for (int i = 0; i < many; i++) {
            x.write(0, i, 10 + i);
        }
        return x;
    }

    private static void row(String what, BoxArchive x, int tray, long... want) {
        for (int i = 0; i < want.length; i++) {
            c.gives(what + " " + i, x, x.read(tray, i), want[i]);
        }
    }

    private static void pour() {
        BoxArchive x = withRow(1, 5);
        x.tray(1, 1, 4);
        c.does("6: to another one", x, x.pour(0, 2, 1, 1, 3));
        row("6: to another one", x, 1, 0, 12, 13, 14);
        row("6: the first one stays", x, 0, 10, 11, 12, 13, 14);
        c.does("6: forth in the same", x, x.pour(0, 0, 0, 1, 4));
        row("6: forth in the same", x, 0, 10, 10, 11, 12, 13);
        c.does("6: back in the same", x, x.pour(0, 2, 0, 0, 3));
        row("6: back in the same", x, 0, 11, 12, 13, 12, 13);
        c.does("6: onto itself", x, x.pour(0, 0, 0, 0, 5));
        row("6: onto itself", x, 0, 11, 12, 13, 12, 13);
    }

    private static void pourRefused() {
        BoxArchive x = withRow(2, 5);
        x.tray(1, 2, 3);
        x.tray(2, 3, 5);
        c.refuses("6: no such first TRAY", x, x.pour(4, 0, 0, 0, 1), 1);
        c.refuses("6: no such other TRAY", x, x.pour(0, 0, -1, 0, 1), 1);
        c.refuses("6: 1 ahead of 3", x, x.pour(3, 0, 4, 0, 1), 1);
        c.refuses("6: the first MISSING", x, x.pour(3, 0, 0, 0, 1), 3);
        c.refuses("6: the other MISSING", x, x.pour(0, 0, 3, 0, 1), 3);
        c.refuses("6: both MISSING, ahead of 6", x, x.pour(3, 0, 3, 0, -1), 3);
        c.refuses("6: 11 ahead of 6", x, x.pour(0, 0, 2, 0, -1), 11);
        c.refuses("6: 11 ahead of 4", x, x.pour(2, 9, 0, 9, 1), 11);
        c.refuses("6: 6 ahead of 4", x, x.pour(0, -1, 1, -1, -1), 6);
        c.refuses("6: beyond the first", x, x.pour(0, 3, 1, 0, 3), 4);
        c.refuses("6: beyond the other", x, x.pour(0, 0, 1, 1, 3), 4);
        c.refuses("6: i below 0", x, x.pour(0, -1, 1, 0, 1), 4);
        c.refuses("6: j below 0", x, x.pour(0, 0, 1, -1, 1), 4);
        int most = Integer.MAX_VALUE;
        c.refuses("6: the greatest of all", x, x.pour(0, most, 1, most, most), 4);
        c.refuses("6: the least many", x, x.pour(0, 0, 1, 0, Integer.MIN_VALUE), 6);
        row("6: refused ones leave the TRAYS", x, 0, 10, 11, 12, 13, 14);
        row("6: refused ones leave the TRAYS", x, 1, 0, 0, 0);
    }

    private static void pourOfNothing() {
        BoxArchive x = withRow(0, 2);
        c.does("6: none", x, x.pour(0, 0, 0, 1, 0));
        c.does("6: none, behind the last place", x, x.pour(0, 2, 0, 2, 0));
        row("6: none", x, 0, 10, 11);
        c.refuses("6: none, beyond", x, x.pour(0, 3, 0, 0, 0), 4);
    }
}
