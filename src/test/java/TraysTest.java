/** Promises 1 to 8: a new object, STATUS, FRACTIONS, TRAYS. */
public final class TraysTest {
    public static void main(String[] args) {
        newObject();
        status();
        fractions();
        tray();
        write();
        read();
        pour();
        Check.end("TraysTest");
    }

    private static void newObject() {
        GivenUp x = new GivenUp();
        Check.due("NONE", GivenUp.NONE, -1);
        Check.due("status of a new object", x.status(), 0);
        Check.due("top of a new object", x.top(), 0);
        Check.due("bottom of a new object", x.bottom(), 1);
        Check.due("fault(0) ahead of any", x.fault(0), GivenUp.NONE);
        Check.due("fault(1) ahead of any", x.fault(1), GivenUp.NONE);
        int[] told = {0, 0, 0, 0, 2, 4, 0, 0, 0, 0};
        for (int what = 0; what < told.length; what++) {
            Check.well(x, "told(" + what + ") of a new object", x.told(what), told[what]);
        }
        for (int tray = 0; tray < 4; tray++) {
            Check.refused(x, "read of a MISSING TRAY", x.read(tray, 0), 2);
        }
        Check.refused(x, "valley(1) from an empty tape", x.valley(1), 1);
        Check.refused(x, "live without YEARS", x.live(0), 6);
        Check.refused(x, "lived ahead of any", x.lived(0), 6);
        Check.refused(x, "undo without MARKS", x.undo(), 6);
        Check.refused(x, "suitor of nobody", x.suitor(0, 0), 1);
        Check.due("feed to an empty tape", x.feed(0, 0, 0, 0, 0), 20);
    }

    private static void status() {
        GivenUp x = new GivenUp();
        x.read(0, 0);
        Check.due("status of a refused call", x.status(), 2);
        x.top();
        x.bottom();
        x.fault(7);
        x.feed(1, 2, 3, 4, 5);
        Check.due("status behind calls that have none", x.status(), 2);
        Check.due("status asked again", x.status(), 2);
        x.told(0);
        Check.due("status behind a good call", x.status(), 0);
    }

    private static void fractions() {
        GivenUp x = Check.with("suitor s;maid m bar 1;thing a of s worth 4;thing b of s worth 6;suitor t;");
        Check.well(x, "share of nothing heard", x.share(0, 0));
        Check.fraction(x, "share of nothing heard", 0, 1);
        x.give(0);
        Check.well(x, "share of 4 by 10", x.share(0, 0));
        Check.fraction(x, "share of 4 by 10", 2, 5);
        Check.refused(x, "share of one without THINGS", x.share(1, 0), 6);
        Check.fraction(x, "share that is refused", 2, 5);
        Check.refused(x, "share of no such", x.share(9, 0), 1);
        Check.fraction(x, "share of no such", 2, 5);
        x.give(1);
        x.share(0, 0);
        Check.fraction(x, "share of all", 1, 1);
        GivenUp y = Check.with("suitor s;maid m bar 1;thing a of s worth 1;");
        Check.well(y, "share of a THING that says 1", y.share(0, 0));
    }

    private static void tray() {
        GivenUp x = new GivenUp();
        Check.refused(x, "tray -1", x.tray(-1, 0, 1), 1);
        Check.refused(x, "tray 4", x.tray(4, 0, 1), 1);
        Check.refused(x, "sort -1", x.tray(0, -1, 1), 1);
        Check.refused(x, "sort 4", x.tray(0, 4, 1), 1);
        Check.refused(x, "many -1", x.tray(0, 0, -1), 1);
        Check.refused(x, "many 61", x.tray(0, 0, 61), 1);
        Check.refused(x, "a refused TRAY is MISSING", x.read(0, 0), 2);
        Check.well(x, "tray of 60", x.tray(3, 3, 60));
        Check.well(x, "its last place", x.read(3, 59), 0);
        Check.well(x, "tray of 0", x.tray(0, 0, 0));
        Check.refused(x, "no place in a TRAY of 0", x.read(0, 0), 3);
        x.write(3, 59, 7);
        Check.refused(x, "tray refused over another", x.tray(3, 0, 61), 1);
        Check.well(x, "the number that stayed", x.read(3, 59), 7);
        Check.well(x, "tray anew", x.tray(3, 3, 60));
        Check.well(x, "a row of 0s again", x.read(3, 59), 0);
        x.write(3, 5, 9);
        x.tray(3, 3, 2);
        x.tray(3, 3, 60);
        Check.well(x, "a 0 behind a shorter one", x.read(3, 5), 0);
    }

    private static void write() {
        GivenUp x = new GivenUp();
        Check.refused(x, "write to tray -1", x.write(-1, 0, 0), 1);
        Check.refused(x, "write to tray 4", x.write(4, 0, 0), 1);
        Check.refused(x, "write to a MISSING TRAY", x.write(1, -1, 0), 2);
        x.tray(1, 0, 3);
        Check.refused(x, "write below the first place", x.write(1, -1, 0), 3);
        Check.refused(x, "write behind the last place", x.write(1, 3, 0), 3);
        Check.refused(x, "write far behind", x.write(1, Integer.MAX_VALUE, 0), 3);
        long[] wide = {200, -200, 1L << 40, 65536 + 70000, 0x123456789abcdefL, Long.MIN_VALUE, -1};
        for (int sort = 0; sort < 4; sort++) {
            x.tray(sort, sort, 3);
            for (long v : wide) {
                long cut = sort == 0 ? (byte) v : sort == 1 ? (short) v : sort == 2 ? (int) v : v;
                Check.well(x, "write " + v + " to sort " + sort, x.write(sort, 2, v));
                Check.well(x, "read " + v + " from sort " + sort, x.read(sort, 2), cut);
                Check.well(x, "its neighbour", x.read(sort, 1), 0);
            }
        }
    }

    private static void read() {
        GivenUp x = new GivenUp();
        Check.refused(x, "read of tray 4", x.read(4, 0), 1);
        Check.refused(x, "read of tray -1", x.read(-1, 0), 1);
        Check.refused(x, "read of a MISSING TRAY", x.read(2, 99), 2);
        x.tray(2, 2, 1);
        Check.refused(x, "read at -1", x.read(2, -1), 3);
        Check.refused(x, "read at 1 of 1", x.read(2, 1), 3);
        x.write(2, 0, -1);
        Check.well(x, "read of a -1", x.read(2, 0), -1);
    }

    private static void pour() {
        GivenUp x = new GivenUp();
        Check.refused(x, "pour from -1", x.pour(-1, 0, 0, 0, 0), 1);
        Check.refused(x, "pour from 4", x.pour(4, 0, 0, 0, 0), 1);
        Check.refused(x, "pour to -1", x.pour(0, 0, -1, 0, 0), 1);
        Check.refused(x, "pour to 4", x.pour(0, 0, 4, 0, 0), 1);
        Check.refused(x, "pour from place -1", x.pour(0, -1, 1, 0, 0), 1);
        Check.refused(x, "pour at -1", x.pour(0, 0, 1, -1, 0), 1);
        Check.refused(x, "pour -1 numbers", x.pour(0, 0, 1, 0, -1), 1);
        Check.refused(x, "pour of MISSING TRAYS", x.pour(0, 0, 1, 0, 0), 2);
        x.tray(0, 1, 4);
        Check.refused(x, "pour to a MISSING TRAY", x.pour(0, 99, 1, 0, 0), 2);
        x.tray(1, 2, 6);
        Check.refused(x, "pour from a MISSING TRAY", x.pour(2, 0, 1, 0, 0), 2);
        Check.refused(x, "pour to an unlike sort, and too many", x.pour(0, 0, 1, 0, 99), 8);
        x.tray(1, 1, 6);
        for (int i = 0; i < 4; i++) {
            x.write(0, i, 10 + i);
        }
        Check.refused(x, "pour of one too many", x.pour(0, 0, 1, 0, 5), 3);
        Check.refused(x, "pour from behind", x.pour(0, 3, 1, 0, 2), 3);
        Check.refused(x, "pour to behind", x.pour(0, 0, 1, 3, 4), 3);
        Check.refused(x, "pour far", x.pour(0, 1, 1, 0, Integer.MAX_VALUE), 3);
        Check.refused(x, "pour from far", x.pour(0, Integer.MAX_VALUE, 1, 0, 1), 3);
        Check.refused(x, "pour to far", x.pour(0, 0, 1, Integer.MAX_VALUE, 1), 3);
        Check.well(x, "nothing came by those", x.read(1, 0), 0);
        Check.well(x, "pour", x.pour(0, 1, 1, 3, 3));
        for (int i = 0; i < 6; i++) {
            Check.well(x, "poured " + i, x.read(1, i), i < 3 ? 0 : 8 + i);
        }
        Check.well(x, "pour up in itself", x.pour(0, 0, 0, 1, 3));
        int[] up = {10, 10, 11, 12};
        for (int i = 0; i < 4; i++) {
            Check.well(x, "poured up " + i, x.read(0, i), up[i]);
        }
        Check.well(x, "pour down in itself", x.pour(0, 1, 0, 0, 3));
        int[] down = {10, 11, 12, 12};
        for (int i = 0; i < 4; i++) {
            Check.well(x, "poured down " + i, x.read(0, i), down[i]);
        }
        Check.well(x, "pour of none", x.pour(0, 4, 1, 6, 0));
        x.tray(2, 1, 4);
        Check.well(x, "pour of a whole TRAY to a whole one", x.pour(0, 0, 2, 0, 4));
        Check.well(x, "its last number", x.read(2, 3), 12);
    }
}
