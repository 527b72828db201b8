/** Promises 19 to 36: giving and wedding. */
final class Promises19To36Sentences extends Due {
    // b is AFTER a; m asks 2 COWS, n nothing.
    private static final String VALLEY = "suitor s age 30 cows 3;suitor t age 40 cows 1;maid m bar 10 rises 2 mother 2;maid n bar 0;"
            + "thing a of s worth 4;thing b of s worth 21;thing c of s worth 0;thing d of t worth 6;thing e of t worth 5;"
            + "says c to m 9;says b to n 0;says e to m 0;after b a;fair 2;";

    private static GivenUp made() {
        return with(VALLEY);
    }

    // ---- 19 to 23

    @Sentence(in = "Promise 19", says = "GIVE: his LOSS then")
    static void promise19_giveHisLossThen() {
        GivenUp x = made();
        well(x, x.give(2), 0);
        well(x, x.give(0), 4);
        well(x, x.give(3), 6);
        x.week();
        x.feign(4);
        well(x, x.give(1), 25);
        GivenUp most = with("suitor s;weekly 9;" + things(12, 99));
        for (int i = 0; i < 12; i++) {
            if (i == 9) {
                most.week();
            }
            well(most, most.give(i), 99 * (i + 1));
        }
    }

    @Sentence(in = "Promise 19", says = "(1; 7).")
    static void promise19_status1And7() {
        ranges("give", "T");
        refuses(7, Promises19To36Sentences::made, x -> x.give(1));
        refuses(7, () -> {
            GivenUp x = made();
            give(x, 0);
            return x;
        }, x -> x.give(0));
        refuses(1, GivenUp::new, x -> x.give(0));
    }

    @Sentence(in = "Promise 20", says = "FEIGN: how many he has FEIGNED")
    static void promise20_feignHowMany() {
        GivenUp x = made();
        well(x, x.feign(0), 1);
        well(x, x.feign(3), 1);
        well(x, x.feign(2), 2);
        well(x, x.feign(4), 2);
        x.week();
        well(x, x.found(0), 1);
        give(x, 0);
        well(x, x.feign(1), 2);
    }

    @Sentence(in = "Promise 20", says = "(1; 7).")
    static void promise20_status1And7() {
        ranges("feign", "T");
        refuses(7, Promises19To36Sentences::made, x -> x.feign(1));
        refuses(7, () -> {
            GivenUp x = made();
            give(x, 0, 2);
            return x;
        }, x -> x.feign(1));
    }

    @Sentence(in = "Promise 21", says = "A FEIGNED THING is found out: it is had, and heard no more: how many he FEIGNS still")
    static void promise21_foundOut() {
        GivenUp x = made();
        x.feign(0);
        x.feign(2);
        x.feign(3);
        well(x, x.found(0), 1);
        well(x, x.thing(0, 2), 0);
        well(x, x.told(9), 12);
        well(x, x.heard(0, 0), 9);
        well(x, x.suitor(0, 3), 25);
        well(x, x.found(2), 0);
        well(x, x.heard(0, 0), 0);
        well(x, x.heard(1, 0), 6);
        well(x, x.found(3), 0);
        // Of one who has WED, too.
        GivenUp wed = made();
        wed.feign(2);
        wed.wed(0, 1);
        well(wed, wed.found(2), 0);
        well(wed, wed.told(9), 0);
    }

    @Sentence(in = "Promise 21", says = "(1; 7: it is not FEIGNED).")
    static void promise21_status1And7() {
        ranges("found", "T");
        refuses(7, Promises19To36Sentences::made, x -> x.found(0));
        refuses(7, () -> {
            GivenUp x = made();
            give(x, 0);
            return x;
        }, x -> x.found(0));
        refuses(7, () -> {
            GivenUp x = made();
            x.feign(0);
            x.found(0);
            return x;
        }, x -> x.found(0));
    }

    @Sentence(in = "Promise 22", says = "The set of THINGS that a SUITOR may GIVE now")
    static void promise22_whatHeMayGiveNow() {
        GivenUp x = made();
        well(x, x.may(0), 5);
        well(x, x.may(1), 24);
        give(x, 0);
        well(x, x.may(0), 6);
        x.feign(2);
        well(x, x.may(0), 0);
        x.week();
        well(x, x.may(0), 2);
        give(x, 1);
        well(x, x.may(0), 0);
        x.wed(1, 1);
        well(x, x.may(1), 0);
        GivenUp none = with("suitor s;");
        well(none, none.may(0), 0);
        // Each that is in the set can be GIVEN, each other can't.
        for (int thing = 0; thing < 5; thing++) {
            GivenUp y = made();
            boolean may = ((y.may(0) | y.may(1)) >> thing & 1) != 0;
            y.give(thing);
            same(y.status(), may ? 0 : 7);
        }
    }

    @Sentence(in = "Promise 22", says = "(1).")
    static void promise22_status1() {
        ranges("may", "S");
    }

    @Sentence(in = "Promise 23", says = "A WEEK goes by: which it is")
    static void promise23_aWeekGoesBy() {
        GivenUp x = made();
        give(x, 0, 2, 3);
        for (int week = 1; week <= 5; week++) {
            well(x, x.week(), week);
            well(x, x.told(6), week);
            well(x, x.maid(0, 3), 10 + 2 * week);
            well(x, x.suitor(0, 2), 0);
        }
        well(x, x.told(8), 13);
    }

    @Sentence(in = "Promise 23", says = "(4: 999).")
    static void promise23_status4At999() {
        GivenUp x = toWeek(made(), 998);
        well(x, x.week(), 999);
        no(x, x.week(), 4);
        no(x, x.week(), 4);
        refuses(4, () -> {
            GivenUp y = toWeek(made(), 999);
            give(y, 0);
            return y;
        }, GivenUp::week);
        // Taken back from there, WEEKS go by again.
        GivenUp back = made();
        back.mark();
        toWeek(back, 999);
        back.undo();
        well(back, back.week(), 1);
    }

    // ---- 24 to 27

    @Sentence(in = "Promise 24", says = "HEARD")
    static void promise24_heard() {
        GivenUp x = made();
        well(x, x.heard(0, 0), 0);
        give(x, 0);
        x.feign(2);
        give(x, 3);
        well(x, x.heard(0, 0), 13);
        well(x, x.heard(0, 1), 4);
        well(x, x.heard(1, 0), 6);
        well(x, x.heard(1, 1), 6);
    }

    @Sentence(in = "Promise 24", says = "(1).")
    static void promise24_status1() {
        ranges("heard", "S", "M");
    }

    @Sentence(in = "Promise 25", says = "1 for a YES, else 0")
    static void promise25_yes() {
        GivenUp x = made();
        well(x, x.yes(0, 0), 0);
        well(x, x.yes(0, 1), 1);
        give(x, 3);
        x.bar(0, 6);
        well(x, x.yes(1, 0), 1);
        x.bar(0, 7);
        well(x, x.yes(1, 0), 0);
        x.wed(1, 1);
        x.bar(0, 0);
        well(x, x.yes(1, 0), 0);
        well(x, x.yes(0, 1), 0);
        well(x, x.yes(0, 0), 1);
    }

    @Sentence(in = "Promise 25", says = "(1).")
    static void promise25_status1() {
        ranges("yes", "S", "M");
    }

    @Sentence(in = "Promise 26", says = "How much HEARD is below her BAR now; below 0: above;")
    static void promise26_lacks() {
        GivenUp x = made();
        well(x, x.lacks(0, 0), 10);
        give(x, 0);
        well(x, x.lacks(0, 0), 6);
        x.week();
        well(x, x.lacks(0, 0), 8);
        well(x, x.lacks(0, 1), -4);
        x.feign(2);
        well(x, x.lacks(0, 0), -1);
        x.bar(0, 11);
        well(x, x.lacks(0, 0), 0);
        // Also of those who have WED.
        x.wed(0, 1);
        well(x, x.lacks(0, 1), -4);
    }

    @Sentence(in = "Promise 26", says = "STATUS tells NONE from -1")
    static void promise26_statusTellsNoneFromMinus1() {
        GivenUp x = with("suitor s;maid m bar 3;thing a of s worth 4;");
        give(x, 0);
        well(x, x.lacks(0, 0), -1);
        no(x, x.lacks(0, 1), 1);
    }

    @Sentence(in = "Promise 26", says = "(1).")
    static void promise26_status1() {
        ranges("lacks", "S", "M");
    }

    @Sentence(in = "Promise 27", says = "WED: his COWS then")
    static void promise27_wedHisCowsThen() {
        GivenUp x = with("suitor s cows 99;suitor t cows 9;suitor u;maid m bar 0 mother 9;maid n bar 0 mother 1;maid o bar 0;");
        well(x, x.wed(1, 0), 0);
        well(x, x.wed(0, 1), 98);
        well(x, x.wed(2, 2), 0);
        well(x, x.told(7), 3);
        for (int i = 0; i < 3; i++) {
            well(x, x.suitor(i, 5), i == 0 ? 1 : i == 1 ? 0 : 2);
            well(x, x.maid(i, 4), i == 0 ? 1 : i == 1 ? 0 : 2);
        }
    }

    @Sentence(in = "Promise 27", says = "(1; 7).")
    static void promise27_status1And7() {
        ranges("wed", "S", "M");
        refuses(7, Promises19To36Sentences::made, x -> x.wed(0, 0));
        refuses(7, () -> {
            GivenUp x = made();
            x.bar(0, 0);
            return x;
        }, x -> x.wed(1, 0));
        refuses(7, () -> {
            GivenUp x = made();
            x.wed(0, 1);
            return x;
        }, x -> x.wed(0, 1));
        refuses(7, () -> {
            GivenUp x = made();
            x.wed(0, 1);
            return x;
        }, x -> x.wed(1, 1));
        refuses(7, () -> {
            GivenUp x = made();
            x.bar(0, 0);
            x.wed(0, 1);
            return x;
        }, x -> x.wed(0, 0));
    }

    // ---- 28 to 33

    @Sentence(in = "Promise 28", says = "BACK: his COWS then")
    static void promise28_backHisCowsThen() {
        GivenUp x = with("suitor s cows 99;suitor t cows 2;thing a of s worth 99;thing b of s worth 0;thing c of t worth 11;fair 1;");
        give(x, 0, 1, 2);
        x.week();
        well(x, x.back(0), 89);
        well(x, x.back(1), 88);
        well(x, x.back(2), 0);
        well(x, x.told(8), 0);
        well(x, x.suitor(0, 1), 88);
    }

    @Sentence(in = "Promise 28", says = "(1; 7).")
    static void promise28_status1And7() {
        ranges("back", "T");
        refuses(7, Promises19To36Sentences::made, x -> x.back(0));
        refuses(7, () -> {
            GivenUp x = made();
            give(x, 0, 1);
            x.week();
            x.week();
            return x;
        }, x -> x.back(0));
        refuses(7, () -> {
            GivenUp x = made();
            give(x, 0);
            x.week();
            return x;
        }, x -> x.back(0));
    }

    @Sentence(in = "Promise 29", says = "How many WEEKS there are till the next FAIR (0: it is one now).")
    static void promise29_toFair() {
        for (int fair : new int[] {1, 2, 3, 4, 19, 20}) {
            GivenUp x = with("fair " + fair + ";");
            well(x, x.toFair(), fair);
            for (int week = 1; week <= 2 * fair + 1; week++) {
                x.week();
                well(x, x.toFair(), week % fair == 0 ? 0 : fair - week % fair);
            }
        }
        GivenUp last = toWeek(with("fair 9;"), 998);
        well(last, last.toFair(), 1);
        last.week();
        well(last, last.toFair(), 0);
    }

    @Sentence(in = "Promise 30", says = "1 if a SUITOR is BARE, else 0")
    static void promise30_bare() {
        GivenUp x = with("suitor s;suitor t;thing a of t worth 0;");
        well(x, x.bare(0), 1);
        well(x, x.bare(1), 0);
        x.feign(0);
        well(x, x.bare(1), 0);
        x.found(0);
        give(x, 0);
        well(x, x.bare(1), 1);
    }

    @Sentence(in = "Promise 30", says = "(1).")
    static void promise30_status1() {
        ranges("bare", "S");
    }

    @Sentence(in = "Promise 31", says = "WOULD HAVE")
    static void promise31_wouldHave() {
        GivenUp x = made();
        well(x, x.wouldHave(0), 1);
        give(x, 0);
        well(x, x.wouldHave(0), 0);
        give(x, 3);
        well(x, x.wouldHave(0), 1);
        x.wed(1, 1);
        well(x, x.wouldHave(0), 0);
        well(x, x.wouldHave(1), 0);
    }

    @Sentence(in = "Promise 31", says = "(1; 6: no SUITOR).")
    static void promise31_status1And6() {
        ranges("wouldHave", "M");
        refuses(6, () -> with("maid m bar 0;"), x -> x.wouldHave(0));
        refuses(6, () -> {
            GivenUp x = with("suitor s;suitor t;maid m bar 0;maid n bar 0;maid o bar 0;");
            x.wed(0, 0);
            x.wed(1, 1);
            return x;
        }, x -> x.wouldHave(2));
        GivenUp x = with("maid m bar 0;");
        no(x, x.wouldHave(1), 1);
    }

    @Sentence(in = "Promise 32", says = "PROUD: a set")
    static void promise32_proud() {
        GivenUp x = made();
        well(x, x.proud(0), 4);
        well(x, x.proud(1), 0);
        GivenUp none = with("maid m bar 0;");
        well(none, none.proud(0), 0);
    }

    @Sentence(in = "Promise 32", says = "(1).")
    static void promise32_status1() {
        ranges("proud", "M");
    }

    @Sentence(in = "Promise 33", says = "The THING of a SUITOR, not GIVEN or FEIGNED, that SAYS the most to a MAID for its WORTH and 1,")
    static void promise33_dearest() {
        // For m: 9 for 10, 3 for 2, 98 for 100, 0 for 1; for n: the WORTHS for the WORTHS and 1.
        GivenUp x = with("suitor s;suitor t;maid m bar 0;maid n bar 0;thing a of s worth 9;thing b of s worth 1;thing c of s worth 99;thing d of s worth 0;"
                + "thing e of t worth 0;says b to m 3;says c to m 98;says e to m 99;weekly 9;");
        well(x, x.dearest(0, 0), 1);
        well(x, x.dearest(0, 1), 2);
        well(x, x.dearest(1, 0), 4);
        give(x, 1);
        // 98 for 100 is more than 9 for 10.
        well(x, x.dearest(0, 0), 2);
        x.feign(2);
        well(x, x.dearest(0, 0), 0);
        well(x, x.dearest(0, 1), 0);
        give(x, 0);
        well(x, x.dearest(0, 0), 3);
        // 1 for 1 is less than 3 for 2, and 2 for 1 is more.
        GivenUp y = with("suitor s;maid m bar 0;maid n bar 0;thing a of s worth 0;thing b of s worth 1;says a to m 1;says b to m 3;says a to n 2;says b to n 3;");
        well(y, y.dearest(0, 0), 1);
        well(y, y.dearest(0, 1), 0);
    }

    @Sentence(in = "Promise 33", says = "of several the first")
    static void promise33_dearestOfSeveralTheFirst() {
        GivenUp x = with("suitor s;suitor t;maid m bar 0;maid n bar 0;thing z of t worth 0;thing a of s worth 0;thing b of s worth 1;thing c of s worth 4;"
                + "says a to m 2;says b to m 4;says c to m 10;says a to n 0;says b to n 0;says c to n 0;");
        well(x, x.dearest(0, 0), 1);
        well(x, x.dearest(0, 1), 1);
        give(x, 1);
        well(x, x.dearest(0, 0), 2);
        well(x, x.dearest(0, 1), 2);
    }

    @Sentence(in = "Promise 33", says = "(1; 6: none).")
    static void promise33_status1And6() {
        ranges("dearest", "S", "M");
        refuses(6, () -> with("suitor s;maid m bar 0;"), x -> x.dearest(0, 0));
        refuses(6, () -> {
            GivenUp x = made();
            give(x, 3);
            x.feign(4);
            return x;
        }, x -> x.dearest(1, 0));
    }

    // ---- 34 to 36

    @Sentence(in = "Promise 34", says = "The FRACTION is how much of what his THINGS SAY to a MAID, all together, she HEARD")
    static void promise34_share() {
        GivenUp x = made();
        well(x, x.share(0, 0));
        fraction(x, 0, 1);
        give(x, 0);
        // 4 of 4, 21 and 9.
        well(x, x.share(0, 0));
        fraction(x, 2, 17);
        well(x, x.share(0, 1));
        fraction(x, 1, 1);
        x.feign(2);
        well(x, x.share(0, 0));
        fraction(x, 13, 34);
        give(x, 3);
        well(x, x.share(1, 1));
        fraction(x, 6, 11);
        well(x, x.share(1, 0));
        fraction(x, 1, 1);
    }

    @Sentence(in = "Promise 34", says = "(1; 6: they say nothing).")
    static void promise34_status1And6() {
        ranges("share", "S", "M");
        refuses(6, () -> with("suitor s;maid m bar 0;"), x -> x.share(0, 0));
        refuses(6, () -> {
            GivenUp x = with("suitor s;maid m bar 0;maid n bar 0;thing a of s worth 5;thing b of s worth 0;says a to m 0;");
            give(x, 0);
            x.share(0, 1);
            return x;
        }, x -> x.share(0, 0));
    }

    @Sentence(in = "Promise 35", says = "A SUITOR LIKES a MAID so much from now on (0 to 99)")
    static void promise35_like() {
        GivenUp x = with("suitor s;suitor t;maid m bar 0;maid n bar 0;likes s n 5;");
        well(x, x.asked(0), 1);
        well(x, x.like(0, 0, 99));
        well(x, x.likes(0, 0), 99);
        well(x, x.likes(0, 1), 5);
        well(x, x.likes(1, 0), 0);
        well(x, x.asked(0), 0);
        well(x, x.like(0, 0, 0));
        well(x, x.likes(0, 0), 0);
        well(x, x.like(1, 1, 7));
        well(x, x.likes(1, 1), 7);
        x.wed(1, 1);
        well(x, x.like(1, 1, 8));
        well(x, x.likes(1, 1), 8);
        x.week();
        well(x, x.likes(1, 1), 8);
    }

    @Sentence(in = "Promise 35", says = "(0 to 99) (1).")
    static void promise35_status1() {
        ranges("like", "S", "M", "0..99");
    }

    @Sentence(in = "Promise 36", says = "A MAID's BAR as told is another one (0 to 999)")
    static void promise36_bar() {
        GivenUp x = made();
        x.week();
        well(x, x.bar(0, 999));
        well(x, x.maid(0, 0), 999);
        well(x, x.maid(0, 3), 1001);
        well(x, x.maid(1, 0), 0);
        well(x, x.bar(0, 0));
        well(x, x.maid(0, 0), 0);
        well(x, x.maid(0, 3), 2);
        well(x, x.maid(0, 1), 2);
        well(x, x.lacks(0, 0), 2);
        x.week();
        well(x, x.maid(0, 3), 4);
    }

    @Sentence(in = "Promise 36", says = "(0 to 999) (1).")
    static void promise36_status1() {
        ranges("bar", "M", "0..999");
    }
}
