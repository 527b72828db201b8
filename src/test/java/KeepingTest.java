/** Promises 47 to 51: who would bolt, who keeps whom by asking in turn. */
public final class KeepingTest {
    // s is heard 5 by m and 1 by n, t 3 by both, u (the eldest) nothing.
    private static final String VALLEY = "suitor s age 30;suitor t age 30;suitor u age 50;maid m bar 0;maid n bar 0;"
            + "thing a of s worth 5;says a to n 1;thing b of t worth 3;likes s m 2;likes s n 7;likes t n 4;likes u m 1;likes u n 1;";

    public static void main(String[] args) {
        bolts();
        bolter();
        asked();
        refusals();
        keep();
        Check.end("KeepingTest");
    }

    private static GivenUp heard() {
        GivenUp x = Check.with(VALLEY);
        x.give(0);
        x.give(1);
        return x;
    }

    private static void couples(GivenUp x, int tray, long... maids) {
        x.tray(tray, 3, maids.length);
        for (int i = 0; i < maids.length; i++) {
            x.write(tray, i, maids[i]);
        }
    }

    private static void bolts() {
        GivenUp x = heard();
        Check.refused(x, "bolts(-1)", x.bolts(-1), 1);
        Check.refused(x, "bolts(4)", x.bolts(4), 1);
        Check.refused(x, "bolts of a MISSING TRAY", x.bolts(0), 2);
        couples(x, 0, 9, 9);
        Check.refused(x, "bolts of too few numbers", x.bolts(0), 3);
        couples(x, 0, -2, 0, 1);
        Check.refused(x, "bolts with -2", x.bolts(0), 5);
        couples(x, 0, 0, 1, 2);
        Check.refused(x, "bolts with no such MAID", x.bolts(0), 5);
        couples(x, 0, 0, 1, 1L << 32);
        Check.refused(x, "bolts with a far MAID", x.bolts(0), 5);
        couples(x, 0, 1, -1, 1);
        Check.refused(x, "bolts with a MAID twice", x.bolts(0), 5);
        couples(x, 0, 0, 1, -1);
        Check.well(x, "s LIKES n more, but she HEARD t more", x.bolts(0), 0);
        couples(x, 0, 1, 0, -1);
        Check.well(x, "t and n", x.bolts(0), 1);
        couples(x, 0, -1, -1, -1);
        Check.well(x, "all of none", x.bolts(0), 6);
        couples(x, 0, -1, -1, 0);
        Check.well(x, "three with n, and two with m", x.bolts(0), 4);
        couples(x, 0, 0, 1, -1, 77, -99);
        Check.well(x, "numbers behind the SUITORS are not read", x.bolts(0), 0);
        couples(x, 0, -1, 1, 0);
        Check.well(x, "s and m; neither t nor n bolts from a like one", x.bolts(0), 1);
        x.wed(2, 0);
        Check.well(x, "WED or not", x.bolts(0), 1);
        GivenUp y = Check.with("suitor s;suitor t;maid m bar 0;maid n bar 0;likes s m 1;likes t n 1;");
        couples(y, 0, 1, 0);
        Check.well(y, "HEARD alike is not more", y.bolts(0), 0);
        y.like(0, 0, 0);
        couples(y, 0, 1, -1);
        Check.well(y, "LIKED alike is not more, but t has none", y.bolts(0), 1);
        GivenUp nobody = new GivenUp();
        nobody.tray(0, 0, 0);
        Check.well(nobody, "bolts of nobody", nobody.bolts(0), 0);
    }

    private static void bolter() {
        GivenUp x = heard();
        Check.refused(x, "bolter(-1, 0)", x.bolter(-1, 0), 1);
        Check.refused(x, "bolter(4, 0)", x.bolter(4, 0), 1);
        Check.refused(x, "bolter(0, 2)", x.bolter(0, 2), 1);
        Check.refused(x, "bolter(0, -1)", x.bolter(0, -1), 1);
        Check.refused(x, "bolter of a MISSING TRAY", x.bolter(0, 0), 2);
        couples(x, 0, 9, 9);
        Check.refused(x, "bolter of too few numbers", x.bolter(0, 0), 3);
        couples(x, 0, 9, 9, 9);
        Check.refused(x, "bolter of wrong numbers", x.bolter(0, 0), 5);
        couples(x, 0, 0, 1, -1);
        Check.refused(x, "bolter of none", x.bolter(0, 0), 6);
        couples(x, 0, 1, 0, -1);
        Check.well(x, "the SUITOR", x.bolter(0, 0), 1);
        Check.well(x, "the MAID", x.bolter(0, 1), 1);
        couples(x, 0, -1, 0, -1);
        Check.well(x, "the first by SUITORS", x.bolter(0, 0), 0);
        Check.well(x, "then by MAIDS", x.bolter(0, 1), 0);
        couples(x, 0, 0, -1, -1);
        Check.well(x, "the first of another's", x.bolter(0, 0), 0);
        Check.well(x, "who has none yet", x.bolter(0, 1), 1);
        couples(x, 0, 0, 1, -1);
        Check.refused(x, "none behind others", x.bolter(0, 0), 6);
        Check.refused(x, "no MAID of none", x.bolter(0, 1), 6);
    }

    private static void asked() {
        GivenUp x = heard();
        Check.refused(x, "asked(3)", x.asked(3), 1);
        Check.refused(x, "asked(-1)", x.asked(-1), 1);
        // s and t ask n, u asks m; n keeps t, s asks m, who keeps him; u asks n, who keeps t.
        Check.well(x, "m keeps s", x.asked(0), 0);
        Check.well(x, "n keeps t", x.asked(1), 1);
        Check.refused(x, "nobody keeps u", x.asked(2), 6);
        GivenUp y = Check.with(VALLEY);
        // Nothing is heard: n keeps s, the first of one AGE; t asks m, who has u, the elder.
        Check.well(y, "n keeps the first", y.asked(0), 1);
        Check.refused(y, "nobody keeps t", y.asked(1), 6);
        Check.well(y, "m keeps the elder", y.asked(2), 0);
        y.wed(2, 1);
        Check.well(y, "WED or not", y.asked(0), 1);
        GivenUp z = Check.with("suitor s;");
        Check.refused(z, "no MAIDS", z.asked(0), 6);
        longest();
    }

    /** Four and four in which the asking goes on for ten rounds, as long as it ever can. */
    private static void longest() {
        int[][] likes = {{1, 3, 0, 2}, {1, 2, 0, 3}, {3, 1, 0, 2}, {3, 2, 0, 1}};
        int[][] hears = {{3, 0, 2, 2}, {0, 2, 1, 0}, {2, 3, 3, 1}, {1, 1, 0, 3}};
        StringBuilder text = new StringBuilder("suitor a;suitor b;suitor c;suitor d;"
                + "maid m bar 9;maid n bar 9;maid o bar 9;maid p bar 9;"
                + "thing e of a worth 9;thing f of b worth 9;thing g of c worth 9;thing h of d worth 9;");
        for (int s = 0; s < 4; s++) {
            for (int m = 0; m < 4; m++) {
                text.append("likes ").append("abcd".charAt(s)).append(" ").append("mnop".charAt(m)).append(" ")
                        .append(likes[s][m]).append(";says ").append("efgh".charAt(s)).append(" to ")
                        .append("mnop".charAt(m)).append(" ").append(hears[s][m]).append(";");
            }
        }
        GivenUp x = Check.with(text.toString());
        for (int thing = 0; thing < 4; thing++) {
            x.give(thing);
        }
        Check.well(x, "nine refusals", x.refusals(), 9);
        int[] due = {0, 2, 1, 3};
        for (int s = 0; s < 4; s++) {
            Check.well(x, "the MAID of " + s, x.asked(s), due[s]);
        }
        x.tray(0, 0, 4);
        Check.well(x, "all are kept", x.keep(0), 4);
        Check.well(x, "and nobody bolts", x.bolts(0), 0);
    }

    private static void refusals() {
        GivenUp x = heard();
        Check.well(x, "s by n, u by m, u by n", x.refusals(), 3);
        GivenUp y = Check.with(VALLEY);
        Check.well(y, "t by n, t by m", y.refusals(), 2);
        GivenUp z = new GivenUp();
        Check.well(z, "of nobody", z.refusals(), 0);
        GivenUp four = Check.with("suitor a;suitor b;suitor c;suitor d;maid m bar 0;maid n bar 0;");
        Check.well(four, "all ask m, three ask n, two are left", four.refusals(), 5);
        Check.well(four, "the first keeps the first", four.asked(0), 0);
        Check.well(four, "the second the second", four.asked(1), 1);
        Check.refused(four, "the third none", four.asked(2), 6);
    }

    private static void keep() {
        GivenUp x = heard();
        Check.refused(x, "keep(-1)", x.keep(-1), 1);
        Check.refused(x, "keep(4)", x.keep(4), 1);
        Check.refused(x, "keep to a MISSING TRAY", x.keep(0), 2);
        couples(x, 0, 5, 5);
        Check.refused(x, "keep to too few", x.keep(0), 3);
        Check.well(x, "nothing came there", x.read(0, 0), 5);
        couples(x, 0, 5, 5, 5, 5);
        Check.well(x, "keep", x.keep(0), 2);
        Check.well(x, "of s", x.read(0, 0), 0);
        Check.well(x, "of t", x.read(0, 1), 1);
        Check.well(x, "of u", x.read(0, 2), -1);
        Check.well(x, "behind the SUITORS all stays", x.read(0, 3), 5);
        Check.well(x, "nobody bolts from those", x.bolts(0), 0);
        x.tray(1, 0, 3);
        Check.well(x, "keep to the least sort", x.keep(1), 2);
        Check.well(x, "-1 in it", x.read(1, 2), -1);
    }
}
