/** Promises 62 and 63: MARKS. */
public final class MarksTest {
    private static final String VALLEY = "suitor s cows 9;suitor t;maid m bar 4 mother 2;maid n bar 0;"
            + "thing a of s worth 4;thing b of s worth 5;thing c of t worth 6;likes s m 3;fair 1;";

    public static void main(String[] args) {
        marks();
        allIsTakenBack();
        whatStays();
        Check.end("MarksTest");
    }

    private static void marks() {
        GivenUp x = new GivenUp();
        Check.refused(x, "undo without MARKS", x.undo(), 6);
        for (int i = 1; i <= 3; i++) {
            Check.well(x, "mark " + i, x.mark(), i);
            x.week();
        }
        Check.refused(x, "a fourth MARK", x.mark(), 4);
        for (int i = 2; i >= 0; i--) {
            Check.well(x, "undo to " + i, x.undo(), i);
            Check.well(x, "the WEEK of that MARK", x.told(6), i);
        }
        Check.refused(x, "undo behind the last", x.undo(), 6);
        Check.well(x, "the WEEK is as it was", x.told(6), 0);
        Check.well(x, "a MARK again", x.mark(), 1);
    }

    private static void allIsTakenBack() {
        GivenUp x = Check.with(VALLEY, "give b;week;");
        x.give(0);
        x.feign(2);
        x.mark();
        x.give(1);
        x.found(2);
        x.wed(0, 0);
        x.week();
        x.bar(1, 77);
        x.like(0, 0, 9);
        Check.valley(x, "maid p bar 1;fair 9;weekly 7;");
        Check.years(x, "loop 4;week;end;");
        x.mark();
        Check.well(x, "undo to the latest", x.undo(), 1);
        Check.well(x, "the new valley", x.told(5), 9);
        Check.well(x, "undo to the first", x.undo(), 0);
        int[] told = {2, 2, 3, 0, 2, 1, 0, 0, 1, 4};
        for (int what = 0; what < told.length; what++) {
            Check.well(x, "told(" + what + ")", x.told(what), told[what]);
        }
        Check.well(x, "COWS", x.suitor(0, 1), 9);
        Check.well(x, "this WEEK", x.suitor(0, 2), 1);
        Check.refused(x, "not WED", x.suitor(0, 5), 6);
        Check.refused(x, "nor she", x.maid(0, 4), 6);
        Check.well(x, "BAR", x.maid(1, 0), 0);
        Check.well(x, "LIKES", x.likes(0, 0), 3);
        Check.well(x, "the NAMES: years", Check.years(x, "give b;wed s with n;"), 2);
        GivenUp y = Check.with(VALLEY, "give b;week;");
        y.mark();
        Check.years(y, "week;week;week;");
        y.undo();
        Check.well(y, "the YEARS", y.live(0), 2);
        Check.well(y, "what they did", y.told(8), 2);
        GivenUp z = Check.with(VALLEY);
        z.mark();
        Check.years(z, "week;");
        z.undo();
        Check.refused(z, "no YEARS at the MARK", z.live(0), 6);
    }

    private static void whatStays() {
        GivenUp x = Check.with(VALLEY);
        x.tray(0, 0, 2);
        x.give(0);
        x.mark();
        x.write(0, 1, 7);
        x.share(0, 0);
        Check.valley(x, "suitor s;suitor s;");
        x.feed(0x20202020, 0, 0, 0, 0);
        x.undo();
        Check.well(x, "TRAYS stay", x.read(0, 1), 7);
        Check.fraction(x, "the FRACTION stays", 4, 9);
        Check.due("what fault() tells stays", x.fault(1), 16);
        Check.due("the tape stays", x.feed(0, 0, 0, 0, 0), 40);
    }
}
