/** Promises 19 to 36: what is GIVEN, FEIGNED, HEARD, who says YES, who weds, what comes back. */
public final class GivingTest {
    private static final String PEOPLE = "suitor s age 30 cows 3;suitor t age 40 cows 1;suitor u age 40;"
            + "maid m bar 10 rises 2 mother 2;maid n bar 0;";
    private static final String VALLEY = PEOPLE + "thing hat of s worth 4;thing cow of s worth 21;thing pipe of s worth 0;"
            + "thing dog of t worth 6;thing cat of t worth 5;says pipe to m 9;says cow to n 0;says cat to m 0;"
            + "after cow hat;fair 2;";

    public static void main(String[] args) {
        give();
        feign();
        found();
        may();
        week();
        heard();
        yesAndLacks();
        wed();
        back();
        toFair();
        bare();
        wouldHave();
        proud();
        dearest();
        share();
        like();
        bar();
        Check.end("GivingTest");
    }

    private static void give() {
        GivenUp x = Check.with(VALLEY);
        Check.refused(x, "give(-1)", x.give(-1), 1);
        Check.refused(x, "give(5)", x.give(5), 1);
        Check.refused(x, "give ahead of what it is AFTER", x.give(1), 7);
        Check.well(x, "give(0)", x.give(0), 4);
        Check.refused(x, "give again", x.give(0), 7);
        Check.well(x, "give(1)", x.give(1), 25);
        Check.refused(x, "give beyond WEEKLY", x.give(2), 7);
        Check.well(x, "another SUITOR's", x.give(3), 6);
        x.week();
        Check.well(x, "give in the next WEEK", x.give(2), 25);
        Check.well(x, "what is GIVEN", x.told(8), 15);
        GivenUp y = Check.with(VALLEY);
        y.wed(1, 1);
        Check.refused(y, "give of one who has WED", y.give(3), 7);
        y.feign(2);
        Check.refused(y, "give what is FEIGNED", y.give(2), 7);
    }

    private static void feign() {
        GivenUp x = Check.with(VALLEY);
        Check.refused(x, "feign(5)", x.feign(5), 1);
        Check.refused(x, "feign(-1)", x.feign(-1), 1);
        Check.refused(x, "feign ahead of what it is AFTER", x.feign(1), 7);
        Check.well(x, "feign(0)", x.feign(0), 1);
        Check.refused(x, "feign again", x.feign(0), 7);
        Check.refused(x, "give what is AFTER a FEIGNED one", x.give(1), 7);
        Check.refused(x, "feign what is AFTER a FEIGNED one", x.feign(1), 7);
        Check.well(x, "feign(2)", x.feign(2), 2);
        Check.well(x, "both are counted for the WEEK", x.suitor(0, 2), 2);
        Check.well(x, "and heard", x.heard(0, 0), 13);
        Check.well(x, "LOSS has none", x.suitor(0, 4), 0);
        Check.well(x, "another SUITOR's count", x.feign(4), 1);
        x.week();
        x.found(0);
        x.give(0);
        Check.well(x, "feign behind a GIVEN one", x.feign(1), 2);
        GivenUp y = Check.with(VALLEY);
        y.give(0);
        Check.refused(y, "feign what is GIVEN", y.feign(0), 7);
        y.give(2);
        Check.refused(y, "feign beyond WEEKLY", y.feign(1), 7);
        y.wed(1, 1);
        Check.refused(y, "feign of one who has WED", y.feign(3), 7);
    }

    private static void found() {
        GivenUp x = Check.with(VALLEY);
        Check.refused(x, "found(5)", x.found(5), 1);
        Check.refused(x, "found(-1)", x.found(-1), 1);
        Check.refused(x, "found what is had", x.found(0), 7);
        x.give(0);
        Check.refused(x, "found what is GIVEN", x.found(0), 7);
        x.feign(2);
        x.feign(3);
        Check.well(x, "found(2)", x.found(2), 0);
        Check.well(x, "it is had", x.thing(2, 2), 0);
        Check.well(x, "and heard no more", x.heard(0, 0), 4);
        Check.well(x, "but it was counted for the WEEK", x.suitor(0, 2), 2);
        x.feign(4);
        Check.well(x, "found(4) leaves one", x.found(4), 1);
        Check.refused(x, "found again", x.found(4), 7);
        x.wed(1, 1);
        Check.well(x, "found of one who has WED", x.found(3), 0);
    }

    private static void may() {
        GivenUp x = Check.with(VALLEY);
        Check.refused(x, "may(3)", x.may(3), 1);
        Check.refused(x, "may(-1)", x.may(-1), 1);
        Check.well(x, "may(0)", x.may(0), 5);
        Check.well(x, "may of one without THINGS", x.may(2), 0);
        x.give(0);
        Check.well(x, "may behind the hat", x.may(0), 6);
        x.feign(2);
        Check.well(x, "may beyond WEEKLY", x.may(0), 0);
        x.week();
        Check.well(x, "may in a new WEEK", x.may(0), 2);
        Check.well(x, "may(1)", x.may(1), 24);
        x.wed(1, 1);
        Check.well(x, "may of one who has WED", x.may(1), 0);
    }

    private static void week() {
        GivenUp x = Due.toWeek(Check.with(VALLEY), 999);
        Check.well(x, "the last WEEK", x.told(6), 999);
        x.give(0);
        Check.refused(x, "week behind 999", x.week(), 4);
        Check.well(x, "it is as it was", x.told(6), 999);
        Check.well(x, "and so is what was GIVEN in it", x.suitor(0, 2), 1);
        GivenUp y = new GivenUp();
        Check.well(y, "week of nobody", y.week(), 1);
    }

    private static void heard() {
        GivenUp x = Check.with(VALLEY);
        Check.refused(x, "heard(3, 0)", x.heard(3, 0), 1);
        Check.refused(x, "heard(0, 2)", x.heard(0, 2), 1);
        Check.refused(x, "heard(-1, 0)", x.heard(-1, 0), 1);
        Check.refused(x, "heard(0, -1)", x.heard(0, -1), 1);
        Check.well(x, "HEARD of nothing", x.heard(0, 0), 0);
        x.give(0);
        x.give(1);
        x.give(3);
        x.week();
        x.feign(2);
        Check.well(x, "HEARD by m", x.heard(0, 0), 34);
        Check.well(x, "HEARD by n", x.heard(0, 1), 4);
        Check.well(x, "HEARD of t", x.heard(1, 0), 6);
        x.wed(0, 1);
        Check.well(x, "HEARD of one who has WED", x.heard(0, 0), 34);
    }

    private static void yesAndLacks() {
        GivenUp x = Check.with(VALLEY);
        Check.refused(x, "yes(3, 0)", x.yes(3, 0), 1);
        Check.refused(x, "yes(0, 2)", x.yes(0, 2), 1);
        Check.refused(x, "yes(-1, 0)", x.yes(-1, 0), 1);
        Check.refused(x, "yes(0, -1)", x.yes(0, -1), 1);
        Check.refused(x, "lacks(3, 0)", x.lacks(3, 0), 1);
        Check.refused(x, "lacks(0, 2)", x.lacks(0, 2), 1);
        Check.refused(x, "lacks(-1, 0)", x.lacks(-1, 0), 1);
        Check.refused(x, "lacks(0, -1)", x.lacks(0, -1), 1);
        Check.well(x, "yes of too little", x.yes(0, 0), 0);
        Check.well(x, "lacks of nothing heard", x.lacks(0, 0), 10);
        Check.well(x, "yes to a BAR of 0", x.yes(2, 1), 1);
        x.give(3);
        x.bar(0, 6);
        Check.well(x, "yes to no less than the BAR", x.yes(1, 0), 1);
        Check.well(x, "lacks nothing", x.lacks(1, 0), 0);
        x.bar(0, 5);
        Check.well(x, "lacks -1", x.lacks(1, 0), -1);
        x.week();
        Check.well(x, "yes to a BAR that has risen", x.yes(1, 0), 0);
        Check.well(x, "lacks 1 by the rise", x.lacks(1, 0), 1);
        x.bar(0, 0);
        Check.well(x, "yes before a wedding", x.yes(1, 0), 1);
        x.wed(2, 1);
        Check.well(x, "yes to one who has WED", x.yes(1, 1), 0);
        Check.well(x, "yes of one who has WED", x.yes(2, 0), 0);
        Check.well(x, "lacks to one who has WED", x.lacks(1, 1), -6);
        GivenUp y = Check.with("suitor s;suitor t;maid m bar 0;");
        y.wed(0, 0);
        Check.well(y, "yes to one who has WED the first SUITOR", y.yes(1, 0), 0);
    }

    private static void wed() {
        GivenUp x = Check.with(VALLEY);
        Check.refused(x, "wed(3, 0)", x.wed(3, 0), 1);
        Check.refused(x, "wed(0, 2)", x.wed(0, 2), 1);
        Check.refused(x, "wed(-1, 0)", x.wed(-1, 0), 1);
        Check.refused(x, "wed(0, -1)", x.wed(0, -1), 1);
        Check.refused(x, "wed without a YES", x.wed(0, 0), 7);
        x.bar(0, 0);
        Check.refused(x, "wed with one COW of two", x.wed(1, 0), 7);
        Check.well(x, "the COWS stay", x.suitor(1, 1), 1);
        Check.well(x, "wed(0, 0)", x.wed(0, 0), 1);
        Check.well(x, "her COWS are gone from him", x.suitor(0, 1), 1);
        Check.well(x, "a couple", x.told(7), 1);
        Check.refused(x, "wed again", x.wed(0, 0), 7);
        Check.refused(x, "wed another", x.wed(0, 1), 7);
        Check.refused(x, "wed one who has WED", x.wed(1, 0), 7);
        Check.well(x, "wed without a MOTHER's COWS", x.wed(2, 1), 0);
        Check.well(x, "two couples", x.told(7), 2);
    }

    private static void back() {
        GivenUp x = Check.with(VALLEY + "thing gem of s worth 10;thing gold of s worth 11;weekly 9;");
        Check.refused(x, "back(-1)", x.back(-1), 1);
        Check.refused(x, "back(7)", x.back(7), 1);
        x.give(0);
        Check.refused(x, "back in WEEK 0", x.back(0), 7);
        x.week();
        Check.refused(x, "back in no FAIR's WEEK", x.back(0), 7);
        x.week();
        Check.refused(x, "back what is had", x.back(2), 7);
        x.feign(2);
        Check.refused(x, "back what is FEIGNED", x.back(2), 7);
        x.give(1);
        Check.refused(x, "back what a GIVEN THING is AFTER", x.back(0), 7);
        Check.well(x, "21 cost 3", x.back(1), 0);
        Check.refused(x, "back without COWS", x.back(0), 7);
        Check.well(x, "it is had", x.thing(1, 2), 0);
        Check.well(x, "his LOSS", x.suitor(0, 4), 4);
        Check.well(x, "all were counted for the WEEK", x.suitor(0, 2), 2);
        Check.well(x, "given once more", x.give(1), 25);
        GivenUp y = Check.with("suitor s cows 4;thing a of s worth 10;thing b of s worth 11;thing c of s worth 0;"
                + "thing d of s worth 9;maid m bar 0;fair 1;weekly 9;after b a;");
        for (int thing = 0; thing < 4; thing++) {
            y.give(thing);
        }
        y.week();
        Check.well(y, "11 cost 2", y.back(1), 2);
        Check.well(y, "10 cost 1", y.back(0), 1);
        Check.well(y, "0 costs 1", y.back(2), 0);
        y.give(0);
        y.feign(1);
        Check.refused(y, "9 cost 1, and he has none", y.back(3), 7);
        GivenUp z = Check.with("suitor s cows 4;thing a of s worth 9;thing b of s worth 9;maid m bar 0;fair 1;after b a;");
        z.give(0);
        z.week();
        z.feign(1);
        Check.well(z, "what is AFTER it is FEIGNED alone", z.back(0), 3);
        z.give(0);
        z.wed(0, 0);
        Check.refused(z, "back of one who has WED", z.back(0), 7);
    }

    private static void toFair() {
        GivenUp x = Check.with("fair 3;");
        int[] due = {3, 2, 1, 0, 2, 1, 0};
        for (int week = 0; week < due.length; week++) {
            Check.well(x, "toFair in WEEK " + week, x.toFair(), due[week]);
            x.week();
        }
        GivenUp y = Check.with("fair 1;");
        Check.well(y, "no FAIR in WEEK 0", y.toFair(), 1);
        y.week();
        Check.well(y, "a FAIR each WEEK", y.toFair(), 0);
    }

    private static void bare() {
        GivenUp x = Check.with(VALLEY);
        Check.refused(x, "bare(3)", x.bare(3), 1);
        Check.refused(x, "bare(-1)", x.bare(-1), 1);
        Check.well(x, "BARE without THINGS", x.bare(2), 1);
        Check.well(x, "not BARE", x.bare(1), 0);
        x.give(3);
        Check.well(x, "one left", x.bare(1), 0);
        x.feign(4);
        Check.well(x, "a FEIGNED one left", x.bare(1), 0);
        x.found(4);
        x.week();
        x.give(4);
        Check.well(x, "BARE", x.bare(1), 1);
    }

    private static void wouldHave() {
        GivenUp x = Check.with(VALLEY);
        Check.refused(x, "wouldHave(2)", x.wouldHave(2), 1);
        Check.refused(x, "wouldHave(-1)", x.wouldHave(-1), 1);
        Check.well(x, "the elder, then the first", x.wouldHave(0), 1);
        x.give(0);
        Check.well(x, "HEARD the most", x.wouldHave(0), 0);
        x.give(3);
        Check.well(x, "more is HEARD of t", x.wouldHave(0), 1);
        x.feign(2);
        Check.well(x, "FEIGNED ones are HEARD", x.wouldHave(0), 0);
        x.wed(0, 1);
        Check.well(x, "not one who has WED", x.wouldHave(0), 1);
        Check.well(x, "also a MAID who has WED", x.wouldHave(1), 1);
        GivenUp y = Check.with("maid m bar 0;suitor s;");
        y.wed(0, 0);
        Check.refused(y, "no SUITOR is left", y.wouldHave(0), 6);
        GivenUp z = Check.with("maid m bar 0;");
        Check.refused(z, "no SUITOR at all", z.wouldHave(0), 6);
    }

    private static void proud() {
        GivenUp x = Check.with(VALLEY);
        Check.refused(x, "proud(2)", x.proud(2), 1);
        Check.refused(x, "proud(-1)", x.proud(-1), 1);
        Check.well(x, "proud(0)", x.proud(0), 4);
        Check.well(x, "proud(1)", x.proud(1), 0);
        x.give(2);
        Check.well(x, "GIVEN or not", x.proud(0), 4);
    }

    private static void dearest() {
        GivenUp x = Check.with(VALLEY + "says dog to n 7;says cat to n 6;");
        Check.refused(x, "dearest(3, 0)", x.dearest(3, 0), 1);
        Check.refused(x, "dearest(0, 2)", x.dearest(0, 2), 1);
        Check.refused(x, "dearest(-1, 0)", x.dearest(-1, 0), 1);
        Check.refused(x, "dearest(0, -1)", x.dearest(0, -1), 1);
        Check.refused(x, "dearest without THINGS", x.dearest(2, 0), 6);
        Check.well(x, "9 for 0 and 1", x.dearest(0, 0), 2);
        Check.well(x, "4 for 5 is less than 21 for 22", x.dearest(0, 1), 0);
        Check.well(x, "alike: the first", x.dearest(1, 1), 3);
        x.feign(2);
        Check.well(x, "not a FEIGNED one", x.dearest(0, 0), 1);
        x.give(3);
        Check.well(x, "not a GIVEN one", x.dearest(1, 0), 4);
        x.give(4);
        Check.refused(x, "none is left", x.dearest(1, 0), 6);
        GivenUp y = Check.with("suitor s;maid m bar 0;maid n bar 0;maid o bar 0;thing a of s worth 0;thing b of s worth 1;"
                + "says a to m 1;says b to m 3;says a to n 1;says b to n 2;says a to o 2;says b to o 3;");
        Check.well(y, "3 for 2 is more than 1 for 1", y.dearest(0, 0), 1);
        Check.well(y, "2 for 2 is alike: the first", y.dearest(0, 1), 0);
        Check.well(y, "3 for 2 is less than 2 for 1", y.dearest(0, 2), 0);
    }

    private static void share() {
        GivenUp x = Check.with(VALLEY);
        Check.refused(x, "share(3, 0)", x.share(3, 0), 1);
        Check.refused(x, "share(0, 2)", x.share(0, 2), 1);
        Check.refused(x, "share(-1, 0)", x.share(-1, 0), 1);
        Check.refused(x, "share(0, -1)", x.share(0, -1), 1);
        Check.refused(x, "share of nothing to say", x.share(2, 0), 6);
        x.give(0);
        x.feign(2);
        Check.well(x, "share of m", x.share(0, 0));
        Check.fraction(x, "13 by 34", 13, 34);
        Check.well(x, "share of n", x.share(0, 1));
        Check.fraction(x, "4 by 4", 1, 1);
    }

    private static void like() {
        GivenUp x = Check.with(VALLEY);
        Check.refused(x, "like(3, 0, 0)", x.like(3, 0, 0), 1);
        Check.refused(x, "like(0, 2, 0)", x.like(0, 2, 0), 1);
        Check.refused(x, "like(-1, 0, 0)", x.like(-1, 0, 0), 1);
        Check.refused(x, "like(0, -1, 0)", x.like(0, -1, 0), 1);
        Check.refused(x, "like(0, 0, -1)", x.like(0, 0, -1), 1);
        Check.refused(x, "like(0, 0, 100)", x.like(0, 0, 100), 1);
        Check.well(x, "nothing came by those", x.likes(0, 0), 0);
        Check.well(x, "like", x.like(0, 0, 99));
        Check.well(x, "likes from now on", x.likes(0, 0), 99);
        Check.well(x, "and no other", x.likes(0, 1), 0);
        Check.well(x, "like 0", x.like(0, 0, 0));
        Check.well(x, "likes no more", x.likes(0, 0), 0);
        Check.well(x, "like of another two", x.like(1, 1, 5));
        Check.well(x, "likes of those", x.likes(1, 1), 5);
        Check.well(x, "and of no others", x.likes(1, 0) + x.likes(0, 1) + x.likes(0, 0), 0);
    }

    private static void bar() {
        GivenUp x = Check.with(VALLEY);
        Check.refused(x, "bar(2, 0)", x.bar(2, 0), 1);
        Check.refused(x, "bar(-1, 0)", x.bar(-1, 0), 1);
        Check.refused(x, "bar(0, -1)", x.bar(0, -1), 1);
        Check.refused(x, "bar(0, 1000)", x.bar(0, 1000), 1);
        Check.well(x, "nothing came by those", x.maid(0, 0), 10);
        x.week();
        Check.well(x, "bar", x.bar(0, 999));
        Check.well(x, "as told", x.maid(0, 0), 999);
        Check.well(x, "the BAR now", x.maid(0, 3), 1001);
        Check.well(x, "bar 0", x.bar(0, 0));
        Check.well(x, "the BAR now above 0", x.maid(0, 3), 2);
    }
}
