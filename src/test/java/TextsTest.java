/** Promises 9, 10, 12 to 18: the tape, the VALLEY's text, its FAULTS and what it told. */
public final class TextsTest {
    private static final String VALLEY = "suitor s age 30 cows 2;suitor t;maid m bar 10 rises 1 mother 1;maid n bar 5;"
            + "thing hat of s worth 4;thing cow of s worth 7;thing pipe of s worth 2;thing dog of t worth 6;"
            + "says pipe to m 9;says dog to n 0;after cow hat;likes s m 5;likes s n 3;likes s n 4;weekly 3;fair 2;";

    public static void main(String[] args) {
        feed();
        valley();
        fault();
        tokens();
        suitorParts();
        maidParts();
        thingParts();
        otherParts();
        tooMany();
        told();
        suitor();
        maid();
        thing();
        says();
        likes();
        nothingIsLeftOver();
        Check.end("TextsTest");
    }

    private static void feed() {
        GivenUp x = new GivenUp();
        for (int i = 1; i <= 45; i++) {
            Check.due("feed " + i, x.feed(0x20202020, 0x20202020, 0x20202020, 0x20202020, 0x20202020), 20 * i);
        }
        Check.due("feed beyond 900", x.feed(1, 1, 1, 1, 1), GivenUp.NONE);
        Check.well(x, "900 blanks are a valley", x.valley(900), 0);
        Check.due("feed behind that", x.feed(-1, -1, -1, -1, -1), 20);
        GivenUp y = new GivenUp();
        // The highest byte of each int comes first: "suitor abcd efgh...".
        y.feed(0x73756974, 0x6f722061, 0x3b737569, 0x746f7220, 0x623b2020);
        Check.well(y, "valley of suitor a;suitor b;", y.valley(18), 0);
        Check.well(y, "two SUITORS", y.told(0), 2);
    }

    private static void valley() {
        GivenUp x = Check.with(VALLEY);
        x.give(0);
        x.feign(3);
        x.week();
        x.mark();
        Check.years(x, "week;");
        x.feed(0x20202020, 0, 0, 0, 0);
        Check.refused(x, "valley(-1)", x.valley(-1), 1);
        Check.refused(x, "valley(21) of 20", x.valley(21), 1);
        Check.refused(x, "a byte of 0", x.valley(5), 9);
        Check.well(x, "the old one stays", x.told(2), 4);
        Check.well(x, "with what was GIVEN", x.told(8), 1);
        Check.refused(x, "the tape is empty then", x.valley(1), 1);
        Check.due("feed behind it", x.feed(0x20202020, 0, 0, 0, 0), 20);
        Check.well(x, "an empty valley", x.valley(0), 0);
        int[] told = {0, 0, 0, 0, 2, 4, 0, 0, 0, 0};
        for (int what = 0; what < told.length; what++) {
            Check.well(x, "told(" + what + ") of an empty valley", x.told(what), told[what]);
        }
        Check.refused(x, "no YEARS by a new valley", x.live(0), 6);
        Check.refused(x, "the tape is empty by valley(0)", x.valley(1), 1);
        Check.well(x, "MARKS stay", x.undo(), 0);
        Check.well(x, "what was GIVEN at the MARK", x.told(8), 1);
        Check.due("a valley's answer", Check.valley(x, VALLEY), 4);
        Check.well(x, "nothing is GIVEN", x.told(8), 0);
        Check.well(x, "nothing is FEIGNED", x.told(9), 0);
        Check.well(x, "WEEK 0", x.told(6), 0);
    }

    private static void fault() {
        GivenUp x = new GivenUp();
        Check.due("fault(2)", x.fault(2), GivenUp.NONE);
        Check.valley(x, "suitor a;suitor a;");
        Check.due("fault(0)", x.fault(0), 3);
        Check.due("fault(1)", x.fault(1), 16);
        Check.due("fault(-1)", x.fault(-1), GivenUp.NONE);
        Check.due("fault(2)", x.fault(2), GivenUp.NONE);
        x.valley(999);
        x.years(999);
        Check.due("fault(0) behind a call with STATUS 1", x.fault(0), 3);
        Check.valley(x, "suitor a;");
        Check.due("fault(0) without one", x.fault(0), 0);
        Check.due("fault(1) without one", x.fault(1), GivenUp.NONE);
        Check.years(x, "any b;");
        Check.due("fault(0) of years", x.fault(0), 3);
        Check.due("fault(1) of years", x.fault(1), 4);
        Check.years(x, "any a;");
        Check.due("fault(0) of good years", x.fault(0), 0);
    }

    private static void tokens() {
        Check.fine("");
        Check.fine(" \n ");
        Check.fine("suitor\na\nage\n7\n;\n");
        Check.fine("suitor a age7cows3;");
        Check.fine("suitor a age 0007;");
        Check.fault("suitor a age 00007;", 1, 13);
        Check.fault("suitor a age 123456;", 1, 13);
        Check.fault("suitor a age 9999;", 4, 13);
        Check.fault("suitor\ta;", 1, 6);
        Check.fault("suitor a;\r", 1, 9);
        Check.fault("Suitor a;", 1, 0);
        Check.fault("suitor \u00e9;", 1, 7);
        Check.fault("suitor a,", 1, 8);
        Check.fault("suitor 12345;", 1, 7);
        Check.fault("suitora;", 2, 0);
        Check.fault(";", 2, 0);
        Check.fault(" 1", 2, 1);
        Check.fault("week;", 2, 0);
        Check.fault("suitor", 2, 6);
        Check.fault("suitor  ", 2, 8);
        Check.fault("suitor a", 2, 8);
        Check.fault("suitor a < ;", 2, 9);
        Check.fault("suitor a;;", 2, 9);
        // Of one TOKEN the least kind: nothing begins so, even where no more SUITORS go.
        Check.fault("suitor a;suitor b;suitor c;suitor d;99999", 1, 36);
    }

    private static void suitorParts() {
        Check.fine("suitor abcdefgh age 0 cows 0;");
        Check.fine("suitor zaz;suitor az;suitor z;");
        Check.fault("suitor zaz;suitor zaz;", 3, 18);
        Check.fault("suitor az;suitor za;suitor az;", 3, 27);
        Check.fine("suitor a age 99 cows 99;");
        Check.fine("suitor a cows 5;");
        Check.fault("suitor abcdefghi;", 2, 7);
        for (String own : ("suitor age cows maid bar rises mother thing of worth says to after likes weekly fair give any"
                + " week wed with back feign when heard yes bare loop end stop").split(" ")) {
            Check.fault("suitor " + own + ";", 2, 7);
        }
        Check.fault("suitor a age 100;", 4, 13);
        Check.fault("suitor a cows 100;", 4, 14);
        Check.fault("suitor a cows 1 age 2;", 2, 16);
        Check.fault("suitor a age;", 2, 12);
        Check.fault("suitor a age b;", 2, 13);
        Check.fault("suitor a;suitor a;", 3, 16);
        Check.fault("maid a bar 1;suitor a;", 3, 20);
        Check.fault("suitor a;suitor b;suitor c;suitor d;suitor a;", 6, 36);
    }

    private static void maidParts() {
        Check.fine("maid m bar 0;");
        Check.fine("maid m bar 999 rises 20 mother 9;");
        Check.fine("maid m bar 1 mother 9;");
        Check.fault("maid m;", 2, 6);
        Check.fault("maid m bar;", 2, 10);
        Check.fault("maid m bar 1000;", 4, 11);
        Check.fault("maid m bar 1 rises 21;", 4, 19);
        Check.fault("maid m bar 1 mother 10;", 4, 20);
        Check.fault("maid m bar 1 mother 1 rises 1;", 2, 22);
        Check.fault("maid m bar 1;maid m bar 1;", 3, 18);
        Check.fault("maid a bar 1;maid b bar 1;maid c bar 1;maid d bar 1;maid e", 6, 52);
    }

    private static void thingParts() {
        Check.fine("suitor s;thing t of s worth 0;thing u of s worth 99;");
        Check.fault("thing t of s worth 1;", 3, 11);
        Check.fault("suitor s;thing s of s worth 1;", 3, 15);
        Check.fault("suitor s;thing t of t worth 1;", 3, 20);
        Check.fault("maid m bar 1;thing t of m worth 1;", 3, 24);
        Check.fault("suitor s;thing t s worth 1;", 2, 17);
        Check.fault("suitor s;thing t of s;", 2, 21);
        Check.fault("suitor s;thing t of s worth;", 2, 27);
        Check.fault("suitor s;thing t of s worth 100;", 4, 28);
        Check.fault("suitor s;thing t of s worth 1", 2, 29);
    }

    private static void otherParts() {
        String s = "suitor s;thing t of s worth 1;maid m bar 1;";
        int n = s.length();
        Check.fine(s + "says t to m 0;says t to m 99;likes s m 0;likes s m 99;");
        Check.fault(s + "says m to m 1;", 3, n + 5);
        Check.fault(s + "says t to s 1;", 3, n + 10);
        Check.fault(s + "says t m 1;", 2, n + 7);
        Check.fault(s + "says t to m;", 2, n + 11);
        Check.fault(s + "says t to m 100;", 4, n + 12);
        Check.fault(s + "likes m m 1;", 3, n + 6);
        Check.fault(s + "likes s s 1;", 3, n + 8);
        Check.fault(s + "likes s m 100;", 4, n + 10);
        Check.fault(s + "likes s to m 1;", 2, n + 8);
        Check.fault(s + "after t t;", 5, n + 8);
        Check.fault(s + "after t s;", 3, n + 8);
        Check.fault(s + "after x t;", 3, n + 6);
        Check.fault(s + "suitor u;thing v of u worth 1;after t v;", 5, n + 38);
        Check.fine(s + "thing u of s worth 1;after t u;after u t;");
        Check.fine("weekly 1;fair 1;");
        Check.fine("weekly 9;fair 20;");
        Check.fault("weekly 0;", 4, 7);
        Check.fault("weekly 10;", 4, 7);
        Check.fault("fair 0;", 4, 5);
        Check.fault("fair 21;", 4, 5);
        Check.fault("weekly 2;fair 4;weekly 2;", 5, 16);
        Check.fault("fair 4;weekly 2;fair", 5, 16);
        Check.fault("weekly ;", 2, 7);
        Check.fault("weekly 1", 2, 8);
        Check.fault("fair 1 1;", 2, 7);
        Check.fault(s + "thing u of s worth 1;after t u", 2, n + 30);
        Check.fault(s + "thing u of s worth 1;after t u t;", 2, n + 31);
        Check.fault(s + "says t to m 1", 2, n + 13);
        Check.fault(s + "likes s m 1", 2, n + 11);
        Check.fault(s + "likes s m 1 1;", 2, n + 12);
        Check.fault("maid m bar 1", 2, 12);
    }

    private static void tooMany() {
        StringBuilder twelve = new StringBuilder("suitor s;");
        for (int i = 0; i < 12; i++) {
            twelve.append("thing ").append((char) ('a' + i)).append(" of s worth 1;");
        }
        Check.fine(twelve.toString());
        Check.fault(twelve + "thing s", 6, twelve.length());
        StringBuilder afters = new StringBuilder("suitor s;thing a of s worth 1;thing b of s worth 1;");
        for (int i = 0; i < 12; i++) {
            afters.append("after a b;");
        }
        Check.fine(afters.toString());
        Check.fault(afters + "after", 6, afters.length());
        GivenUp x = Check.with(afters.toString());
        Check.well(x, "AFTERS told again are counted", x.told(3), 12);
        Check.well(x, "but are one in the set", x.thing(0, 3), 2);
    }

    private static void told() {
        GivenUp x = Check.with(VALLEY);
        int[] told = {2, 2, 4, 1, 3, 2, 0, 0, 0, 0};
        for (int what = 0; what < told.length; what++) {
            Check.well(x, "told(" + what + ")", x.told(what), told[what]);
        }
        Check.refused(x, "told(-1)", x.told(-1), 1);
        Check.refused(x, "told(10)", x.told(10), 1);
        x.give(0);
        x.give(2);
        x.feign(3);
        Check.well(x, "told(8)", x.told(8), 5);
        Check.well(x, "told(9)", x.told(9), 8);
        x.wed(0, 0);
        Check.well(x, "told(7) of one couple", x.told(7), 1);
        x.week();
        Check.well(x, "told(6)", x.told(6), 1);
    }

    private static void suitor() {
        GivenUp x = Check.with(VALLEY);
        int[] s = {30, 2, 0, 13, 0, -1, 7};
        int[] t = {20, 0, 0, 6, 0, -1, 8};
        for (int what = 0; what < 7; what++) {
            if (what != 5) {
                Check.well(x, "suitor(0, " + what + ")", x.suitor(0, what), s[what]);
                Check.well(x, "suitor(1, " + what + ")", x.suitor(1, what), t[what]);
            }
        }
        Check.refused(x, "no MAID yet", x.suitor(0, 5), 6);
        Check.refused(x, "suitor(2, 0)", x.suitor(2, 0), 1);
        Check.refused(x, "suitor(-1, 0)", x.suitor(-1, 0), 1);
        Check.refused(x, "suitor(0, 7)", x.suitor(0, 7), 1);
        Check.refused(x, "suitor(0, -1)", x.suitor(0, -1), 1);
        x.give(0);
        x.feign(2);
        Check.well(x, "two this WEEK", x.suitor(0, 2), 2);
        Check.well(x, "LEFT has what is FEIGNED", x.suitor(0, 3), 9);
        Check.well(x, "LOSS has not", x.suitor(0, 4), 4);
        Check.well(x, "all his THINGS still", x.suitor(0, 6), 7);
        x.wed(0, 0);
        Check.well(x, "his MAID", x.suitor(0, 5), 0);
        Check.well(x, "his COWS", x.suitor(0, 1), 1);
        x.week();
        Check.well(x, "none in a new WEEK", x.suitor(0, 2), 0);
    }

    private static void maid() {
        GivenUp x = Check.with(VALLEY);
        int[] m = {10, 1, 1, 10};
        int[] n = {5, 0, 0, 5};
        for (int what = 0; what < 4; what++) {
            Check.well(x, "maid(0, " + what + ")", x.maid(0, what), m[what]);
            Check.well(x, "maid(1, " + what + ")", x.maid(1, what), n[what]);
        }
        Check.refused(x, "no SUITOR yet", x.maid(1, 4), 6);
        Check.refused(x, "maid(2, 0)", x.maid(2, 0), 1);
        Check.refused(x, "maid(-1, 0)", x.maid(-1, 0), 1);
        Check.refused(x, "maid(0, 5)", x.maid(0, 5), 1);
        Check.refused(x, "maid(0, -1)", x.maid(0, -1), 1);
        x.week();
        x.week();
        Check.well(x, "the BAR as told", x.maid(0, 0), 10);
        Check.well(x, "the BAR now", x.maid(0, 3), 12);
        x.bar(1, 0);
        x.wed(1, 1);
        Check.well(x, "her SUITOR", x.maid(1, 4), 1);
    }

    private static void thing() {
        GivenUp x = Check.with(VALLEY + "thing ring of s worth 9;after ring cow;thing top of s worth 0;"
                + "thing tip of s worth 1;after top tip;after tip top;thing tap of s worth 1;after tap tip;after ring hat;");
        Check.well(x, "its SUITOR", x.thing(3, 0), 1);
        Check.well(x, "its WORTH", x.thing(4, 1), 9);
        Check.well(x, "had", x.thing(0, 2), 0);
        Check.well(x, "AFTER nothing", x.thing(0, 3), 0);
        Check.well(x, "AFTER the hat", x.thing(1, 3), 1);
        Check.well(x, "AFTER two, at once alone", x.thing(4, 3), 3);
        Check.well(x, "DEEP 0", x.thing(0, 4), 0);
        Check.well(x, "DEEP 1", x.thing(1, 4), 1);
        Check.well(x, "DEEP 2", x.thing(4, 4), 2);
        Check.well(x, "DEEP in a ring", x.thing(5, 4), 99);
        Check.well(x, "DEEP behind a ring", x.thing(7, 4), 99);
        x.give(0);
        x.feign(2);
        Check.well(x, "GIVEN", x.thing(0, 2), 1);
        Check.well(x, "FEIGNED", x.thing(2, 2), 2);
        Check.well(x, "DEEP as ever", x.thing(1, 4), 1);
        Check.refused(x, "thing(8, 0)", x.thing(8, 0), 1);
        Check.refused(x, "thing(-1, 0)", x.thing(-1, 0), 1);
        Check.refused(x, "thing(0, 5)", x.thing(0, 5), 1);
        Check.refused(x, "thing(0, -1)", x.thing(0, -1), 1);
    }

    private static void says() {
        GivenUp x = Check.with(VALLEY + "says pipe to n 8;says pipe to n 1;maid late bar 1;");
        Check.well(x, "what it SAYS", x.says(2, 0), 9);
        Check.well(x, "told again: the latest", x.says(2, 1), 1);
        Check.well(x, "0 is not untold", x.says(3, 1), 0);
        Check.well(x, "its WORTH without", x.says(3, 0), 6);
        Check.well(x, "its WORTH to a MAID told later", x.says(2, 2), 2);
        Check.refused(x, "says(4, 0)", x.says(4, 0), 1);
        Check.refused(x, "says(-1, 0)", x.says(-1, 0), 1);
        Check.refused(x, "says(0, 3)", x.says(0, 3), 1);
        Check.refused(x, "says(0, -1)", x.says(0, -1), 1);
    }

    /** Whatever a valley had, a later one begins with nothing of it. */
    private static void nothingIsLeftOver() {
        String full = "suitor s age 9 cows 9;suitor t age 9 cows 9;maid m bar 0 rises 9 mother 9;maid n bar 9 rises 9 mother 9;"
                + "thing a of s worth 9;thing b of s worth 9;thing c of t worth 9;says a to m 8;says b to n 8;after a b;after b a;"
                + "likes s m 9;likes t n 9;weekly 9;fair 9;";
        GivenUp x = new GivenUp();
        // Three times, so that each of the places where a valley may be kept has had a full one.
        for (int i = 0; i < 3; i++) {
            Check.valley(x, full);
            Check.years(x, "week;loop 2;week;end;");
            x.week();
            x.give(2);
            x.wed(0, 0);
            x.mean(0, 0, 1);
            Check.valley(x, "suitor a;suitor");
            Check.years(x, "loop 2;when bare s;");
        }
        Check.valley(x, "suitor s;suitor t;maid m bar 0;maid n bar 0;thing a of s worth 1;thing b of s worth 1;thing c of t worth 1;");
        int[] told = {2, 2, 3, 0, 2, 4, 0, 0, 0, 0};
        for (int what = 0; what < told.length; what++) {
            Check.well(x, "told(" + what + ") behind full ones", x.told(what), told[what]);
        }
        for (int i = 0; i < 2; i++) {
            Check.well(x, "AGE", x.suitor(i, 0), 20);
            Check.well(x, "COWS", x.suitor(i, 1), 0);
            Check.well(x, "this WEEK", x.suitor(i, 2), 0);
            Check.refused(x, "his MAID", x.suitor(i, 5), 6);
            Check.well(x, "RISES", x.maid(i, 1), 0);
            Check.well(x, "MOTHER", x.maid(i, 2), 0);
            Check.refused(x, "her SUITOR", x.maid(i, 4), 6);
            Check.well(x, "LIKES", x.likes(i, i), 0);
            Check.well(x, "SAYS", x.says(i, i), 1);
            Check.well(x, "AFTER", x.thing(i, 3), 0);
            Check.well(x, "DEEP", x.thing(i, 4), 0);
            Check.well(x, "needs", x.needs(i), 0);
        }
        Check.refused(x, "YEARS", x.live(0), 6);
        Check.well(x, "one STEP behind open ones", Check.years(x, "week;"), 1);
        Check.refused(x, "their end", Check.years(x, "end;"), 9);
    }

    private static void likes() {
        GivenUp x = Check.with(VALLEY);
        Check.well(x, "LIKES", x.likes(0, 0), 5);
        Check.well(x, "told again: the latest", x.likes(0, 1), 4);
        Check.well(x, "0 without", x.likes(1, 1), 0);
        Check.refused(x, "likes(2, 0)", x.likes(2, 0), 1);
        Check.refused(x, "likes(0, 2)", x.likes(0, 2), 1);
        Check.refused(x, "likes(-1, 0)", x.likes(-1, 0), 1);
        Check.refused(x, "likes(0, -1)", x.likes(0, -1), 1);
    }
}
