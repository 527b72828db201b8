/** Promises 62 and 63: MARKS. */
public final class MarksTest {
    private static final String VALLEY = "suitor s cows 9;suitor t;maid m bar 4 mother 2;maid n bar 0;"
            + "thing a of s worth 4;thing b of s worth 5;thing c of t worth 6;likes s m 3;fair 1;";

    public static void main(String[] args) {
        marks();
        allIsTakenBack();
        overAnotherValley();
        deedsAlone();
        whatStays();
        Check.end("MarksTest");
    }

    private static void marks() {
        GivenUp x = new GivenUp();
        Check.refused(x, "undo without MARKS", x.undo(), 6);
        for (int i = 1; i <= 3; i++) {
            Check.well(x, "mark " + i, x.mark(), i);
            x.week();
        }
        Check.refused(x, "a fourth MARK", x.mark(), 4);
        for (int i = 2; i >= 0; i--) {
            Check.well(x, "undo to " + i, x.undo(), i);
            Check.well(x, "the WEEK of that MARK", x.told(6), i);
        }
        Check.refused(x, "undo behind the last", x.undo(), 6);
        Check.well(x, "the WEEK is as it was", x.told(6), 0);
        Check.well(x, "a MARK again", x.mark(), 1);
    }

    private static void allIsTakenBack() {
        GivenUp x = Check.with(VALLEY, "give b;week;");
        x.give(0);
        x.feign(2);
        x.mark();
        x.give(1);
        x.found(2);
        x.wed(0, 0);
        x.week();
        x.bar(1, 77);
        x.like(0, 0, 9);
        Check.valley(x, "maid p bar 1;fair 9;weekly 7;");
        Check.years(x, "loop 4;week;end;");
        x.mark();
        Check.well(x, "undo to the latest", x.undo(), 1);
        Check.well(x, "the new valley", x.told(5), 9);
        Check.well(x, "undo to the first", x.undo(), 0);
        int[] told = {2, 2, 3, 0, 2, 1, 0, 0, 1, 4};
        for (int what = 0; what < told.length; what++) {
            Check.well(x, "told(" + what + ")", x.told(what), told[what]);
        }
        Check.well(x, "COWS", x.suitor(0, 1), 9);
        Check.well(x, "this WEEK", x.suitor(0, 2), 1);
        Check.refused(x, "not WED", x.suitor(0, 5), 6);
        Check.refused(x, "nor she", x.maid(0, 4), 6);
        Check.well(x, "BAR", x.maid(1, 0), 0);
        Check.well(x, "LIKES", x.likes(0, 0), 3);
        Check.well(x, "the NAMES: years", Check.years(x, "give b;wed s with n;"), 2);
        GivenUp y = Check.with(VALLEY, "give b;week;");
        y.mark();
        Check.years(y, "week;week;week;");
        y.undo();
        Check.well(y, "the YEARS", y.live(0), 2);
        Check.well(y, "what they did", y.told(8), 2);
        GivenUp z = Check.with(VALLEY);
        z.mark();
        Check.years(z, "week;");
        z.undo();
        Check.refused(z, "no YEARS at the MARK", z.live(0), 6);
    }

    /** Two full valleys that are alike in nothing, one MARKED, then the other told, then taken back. */
    private static void overAnotherValley() {
        String one = "suitor s age 9 cows 8;suitor t age 7 cows 6;maid m bar 5 rises 4 mother 3;maid n bar 0 rises 1 mother 2;"
                + "thing a of s worth 9;thing b of s worth 8;thing c of t worth 7;thing d of t worth 6;thing e of t worth 5;"
                + "says e to n 3;says a to n 1;after a b;after d e;after e d;likes t n 2;likes s m 1;weekly 3;fair 5;";
        String other = "suitor p age 19 cows 18;maid q bar 15 rises 14 mother 9;maid r bar 99 rises 11 mother 0;"
                + "suitor o age 17 cows 16;thing f of o worth 19;thing g of o worth 18;thing h of p worth 17;thing i of o worth 16;"
                + "thing j of o worth 15;says j to r 13;says f to r 11;after f j;after g f;after j g;after g f;likes o r 12;likes p q 11;weekly 9;";
        GivenUp x = Check.with(other);
        x.week();
        x.give(2);
        x.mark();
        Check.valley(x, one);
        x.give(1);
        x.mark();
        x.mark();
        long[] due = all(x);
        x.wed(1, 1);
        x.week();
        Check.valley(x, other);
        x.week();
        x.give(2);
        x.undo();
        long[] got = all(x);
        for (int i = 0; i < due.length; i++) {
            Check.due("answer " + i + " behind undo", got[i], due[i]);
        }
        x.undo();
        x.undo();
        Check.well(x, "the first MARK's valley", x.maid(1, 0), 99);
        Check.well(x, "its SAYS", x.says(4, 1), 13);
        Check.well(x, "its LIKES", x.likes(1, 1), 12);
        Check.well(x, "its WEEK", x.told(6), 1);
        Check.well(x, "its AFTERS", x.told(3), 4);
        Check.well(x, "its ring", x.never(1), 1 + 2 + 16);
    }

    private static long[] all(GivenUp x) {
        long[] all = new long[100];
        int n = 0;
        for (int what = 0; what < 10; what++) {
            all[n++] = x.told(what);
        }
        for (int i = 0; i < 2; i++) {
            for (int what = 0; what < 7; what++) {
                all[n++] = x.suitor(i, what);
            }
            for (int what = 0; what < 5; what++) {
                all[n++] = x.maid(i, what);
            }
            for (int j = 0; j < 2; j++) {
                all[n++] = x.likes(i, j);
                all[n++] = x.yes(i, j);
            }
            all[n++] = x.never(i);
        }
        for (int i = 0; i < 5; i++) {
            for (int what = 0; what < 5; what++) {
                all[n++] = x.thing(i, what);
            }
            all[n++] = x.needs(i);
            all[n++] = x.says(i, 0);
            all[n++] = x.says(i, 1);
        }
        return all;
    }

    private static void deedsAlone() {
        GivenUp x = Check.with(VALLEY);
        x.give(0);
        x.mark();
        x.wed(0, 0);
        x.wed(1, 1);
        x.undo();
        Check.refused(x, "s has not WED", x.suitor(0, 5), 6);
        Check.refused(x, "t has not WED", x.suitor(1, 5), 6);
        Check.refused(x, "m has not WED", x.maid(0, 4), 6);
        Check.refused(x, "n has not WED", x.maid(1, 4), 6);
        Check.well(x, "COWS are his again", x.suitor(0, 1), 9);
        Check.well(x, "s may wed anew", x.wed(0, 1), 9);
        x.mark();
        x.undo();
        Check.well(x, "WED at the MARK", x.suitor(0, 5), 1);
        Check.well(x, "she, too", x.maid(1, 4), 0);
    }

    private static void whatStays() {
        GivenUp x = Check.with(VALLEY);
        x.tray(0, 0, 2);
        x.give(0);
        x.mark();
        x.write(0, 1, 7);
        x.share(0, 0);
        Check.valley(x, "suitor s;suitor s;");
        x.feed(0x20202020, 0, 0, 0, 0);
        x.undo();
        Check.well(x, "TRAYS stay", x.read(0, 1), 7);
        Check.fraction(x, "the FRACTION stays", 4, 9);
        Check.due("what fault() tells stays", x.fault(1), 16);
        Check.due("the tape stays", x.feed(0, 0, 0, 0, 0), 40);
    }
}
