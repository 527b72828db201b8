/** Terms 2: GIVE, FEIGN, HEARD, YES, WED, what is LEFT, BACK, whom a MAID WOULD HAVE. */
final class Terms2Sentences extends Due {
    // b is AFTER a; m asks 2 COWS, n nothing; s has 3, t has 1.
    private static final String VALLEY = "suitor s age 30 cows 3;suitor t age 40 cows 1;maid m bar 10 rises 2 mother 2;maid n bar 0;"
            + "thing a of s worth 4;thing b of s worth 21;thing c of s worth 0;thing d of t worth 6;thing e of t worth 5;"
            + "says c to m 9;says b to n 0;says e to m 0;after b a;fair 2;";
    // Ten THINGS of one SUITOR, then one of another.
    private static final String ELEVEN = "suitor s;suitor t;maid m bar 0;thing a of s worth 1;thing b of s worth 1;thing c of s worth 1;"
            + "thing d of s worth 1;thing e of s worth 1;thing f of s worth 1;thing g of s worth 1;thing h of s worth 1;"
            + "thing i of s worth 1;thing j of s worth 1;thing k of t worth 1;";

    private static GivenUp made() {
        return with(VALLEY);
    }

    // ---- GIVE

    @Sentence(in = "Terms 2", says = "GIVE: a THING is GIVEN (its SUITOR has it no more),")
    static void terms2_aGivenThingIsHadNoMore() {
        GivenUp x = made();
        well(x, x.suitor(0, 3), 25);
        well(x, x.give(0), 4);
        well(x, x.thing(0, 2), 1);
        well(x, x.told(8), 1);
        well(x, x.suitor(0, 3), 21);
        well(x, x.suitor(0, 4), 4);
        well(x, x.thing(1, 2), 0);
    }

    @Sentence(in = "Terms 2", says = "if it is not,")
    static void terms2_giveIfItIsNotGiven() {
        refuses(7, () -> {
            GivenUp x = made();
            give(x, 0);
            return x;
        }, x -> x.give(0));
        GivenUp late = made();
        give(late, 0);
        late.week();
        no(late, late.give(0), 7);
    }

    @Sentence(in = "Terms 2", says = "nor FEIGNED,")
    static void terms2_giveIfItIsNotFeigned() {
        refuses(7, () -> {
            GivenUp x = made();
            x.feign(0);
            return x;
        }, x -> x.give(0));
        GivenUp late = made();
        late.feign(0);
        late.week();
        no(late, late.give(0), 7);
        well(late, late.found(0), 0);
        well(late, late.give(0), 4);
    }

    @Sentence(in = "Terms 2", says = "its SUITOR has not WED,")
    static void terms2_giveIfItsSuitorHasNotWed() {
        refuses(7, () -> {
            GivenUp x = made();
            x.wed(1, 1);
            return x;
        }, x -> x.give(3));
        GivenUp x = made();
        x.wed(1, 1);
        well(x, x.give(0), 4);
        GivenUp first = made();
        first.wed(0, 1);
        no(first, first.give(0), 7);
        well(first, first.give(3), 6);
    }

    @Sentence(in = "Terms 2", says = "all that it is AFTER are GIVEN,")
    static void terms2_giveIfAllThatItIsAfterAreGiven() {
        String two = "suitor s;thing a of s worth 1;thing b of s worth 2;thing c of s worth 4;after c a;after c b;weekly 9;";
        refuses(7, () -> with(two), x -> x.give(2));
        for (int only = 0; only < 2; only++) {
            GivenUp x = with(two);
            give(x, only);
            no(x, x.give(2), 7);
            x.feign(1 - only);
            no(x, x.give(2), 7);
            x.found(1 - only);
            give(x, 1 - only);
            well(x, x.give(2), 7);
        }
        // Given back, a THING is no more GIVEN.
        GivenUp back = with(two + "fair 1;");
        give(back, 0, 1);
        same(back.told(8), 3);
        GivenUp chain = with("suitor s;thing a of s worth 1;thing b of s worth 2;thing c of s worth 4;after c b;after b a;weekly 9;");
        give(chain, 0);
        no(chain, chain.give(2), 7);
        give(chain, 1, 2);
    }

    @Sentence(in = "Terms 2", says = "and he has GIVEN fewer than WEEKLY in this WEEK.")
    static void terms2_giveFewerThanWeeklyInThisWeek() {
        for (int weekly : new int[] {1, 2, 8, 9}) {
            String text = ELEVEN + "weekly " + weekly + ";";
            refuses(7, () -> {
                GivenUp x = with(text);
                for (int i = 0; i < weekly; i++) {
                    give(x, i);
                }
                return x;
            }, x -> x.give(weekly));
            GivenUp x = with(text);
            for (int i = 0; i < weekly; i++) {
                well(x, x.give(i), i + 1);
            }
            // The other SUITOR is counted for himself, and each WEEK anew.
            well(x, x.give(10), 1);
            x.week();
            well(x, x.give(weekly), weekly + 1);
        }
        GivenUp without = with(ELEVEN);
        give(without, 0, 1);
        no(without, without.give(2), 7);
    }

    // ---- FEIGN

    @Sentence(in = "Terms 2", says = "FEIGN: likewise,")
    static void terms2_feignLikewise() {
        refuses(7, () -> {
            GivenUp x = made();
            give(x, 0);
            return x;
        }, x -> x.feign(0));
        refuses(7, () -> {
            GivenUp x = made();
            x.feign(0);
            return x;
        }, x -> x.feign(0));
        refuses(7, () -> {
            GivenUp x = made();
            x.wed(1, 1);
            return x;
        }, x -> x.feign(3));
        refuses(7, Terms2Sentences::made, x -> x.feign(1));
        refuses(7, () -> {
            GivenUp x = made();
            give(x, 0, 1);
            return x;
        }, x -> x.feign(2));
        GivenUp x = made();
        give(x, 0);
        well(x, x.feign(1), 1);
        well(x, x.feign(3), 1);
        x.week();
        well(x, x.feign(2), 2);
    }

    @Sentence(in = "Terms 2", says = "but he has it still: it is FEIGNED:")
    static void terms2_aFeignedThingIsHadStill() {
        GivenUp x = made();
        well(x, x.feign(0), 1);
        well(x, x.thing(0, 2), 2);
        well(x, x.told(8), 0);
        well(x, x.told(9), 1);
        well(x, x.suitor(0, 3), 25);
        well(x, x.suitor(0, 4), 0);
        GivenUp one = with("suitor s;thing a of s worth 1;");
        one.feign(0);
        well(one, one.bare(0), 0);
    }

    @Sentence(in = "Terms 2", says = "heard as if it were GIVEN,")
    static void terms2_aFeignedThingIsHeard() {
        GivenUp x = made();
        x.feign(2);
        well(x, x.heard(0, 0), 9);
        well(x, x.heard(0, 1), 0);
        x.bar(0, 9);
        well(x, x.yes(0, 0), 1);
        well(x, x.wed(0, 0), 1);
    }

    @Sentence(in = "Terms 2", says = "and counted for the WEEK,")
    static void terms2_aFeignedThingIsCountedForTheWeek() {
        GivenUp x = made();
        x.feign(2);
        well(x, x.suitor(0, 2), 1);
        give(x, 0);
        well(x, x.suitor(0, 2), 2);
        no(x, x.give(1), 7);
        no(x, x.feign(1), 7);
        GivenUp y = with(ELEVEN + "weekly 1;");
        y.feign(0);
        no(y, y.give(1), 7);
        no(y, y.feign(1), 7);
        y.week();
        well(y, y.give(1), 1);
    }

    @Sentence(in = "Terms 2", says = "but what is AFTER it can't be GIVEN.")
    static void terms2_whatIsAfterAFeignedThingCantBeGiven() {
        refuses(7, () -> {
            GivenUp x = made();
            x.feign(0);
            return x;
        }, x -> x.give(1));
        GivenUp x = made();
        x.feign(0);
        x.week();
        no(x, x.give(1), 7);
        no(x, x.feign(1), 7);
        well(x, x.may(0), 4);
    }

    // ---- HEARD, YES, WED

    @Sentence(in = "Terms 2", says = "HEARD of a SUITOR by a MAID: all that his GIVEN and FEIGNED THINGS SAY to her.")
    static void terms2_heardIsAllThatGivenAndFeignedThingsSay() {
        GivenUp x = made();
        well(x, x.heard(0, 0), 0);
        give(x, 0, 1);
        well(x, x.heard(0, 0), 25);
        well(x, x.heard(0, 1), 4);
        x.week();
        x.feign(2);
        well(x, x.heard(0, 0), 34);
        give(x, 3, 4);
        well(x, x.heard(1, 0), 6);
        well(x, x.heard(1, 1), 11);
        well(x, x.heard(0, 0), 34);
        x.wed(0, 0);
        well(x, x.heard(0, 0), 34);
    }

    @Sentence(in = "Terms 2", says = "all that his GIVEN and FEIGNED THINGS SAY to her.")
    static void terms2_heardAsMuchAsThereMayBe() {
        StringBuilder text = new StringBuilder("suitor s;maid m bar 999 rises 20;weekly 9;");
        for (char c = 'a'; c <= 'l'; c++) {
            text.append("thing ").append(c).append("x of s worth 0;says ").append(c).append("x to m 99;");
        }
        GivenUp x = with(text.toString());
        for (int i = 0; i < 9; i++) {
            give(x, i);
        }
        x.week();
        for (int i = 9; i < 12; i++) {
            x.feign(i);
        }
        well(x, x.heard(0, 0), 12 * 99);
        well(x, x.lacks(0, 0), 1019 - 12 * 99);
        well(x, x.suitor(0, 4), 0);
    }

    @Sentence(in = "Terms 2", says = "BAR now: BAR and RISES times the WEEK.")
    static void terms2_barNow() {
        GivenUp x = with("suitor s;maid m bar 999 rises 20;maid n bar 7;maid o bar 0 rises 1;");
        well(x, x.maid(0, 3), 999);
        x.week();
        well(x, x.maid(0, 3), 1019);
        well(x, x.maid(1, 3), 7);
        well(x, x.maid(2, 3), 1);
        x.week();
        well(x, x.maid(0, 3), 1039);
        toWeek(x, 999);
        well(x, x.maid(0, 3), 999 + 20 * 999);
        well(x, x.lacks(0, 0), 999 + 20 * 999);
        well(x, x.maid(1, 3), 7);
        well(x, x.maid(2, 3), 999);
    }

    @Sentence(in = "Terms 2", says = "YES: neither has WED,")
    static void terms2_yesIfNeitherHasWed() {
        GivenUp x = with("suitor s;suitor t;maid m bar 0;maid n bar 0;");
        for (int suitor = 0; suitor < 2; suitor++) {
            for (int maid = 0; maid < 2; maid++) {
                well(x, x.yes(suitor, maid), 1);
            }
        }
        x.wed(0, 1);
        well(x, x.yes(0, 0), 0);
        well(x, x.yes(0, 1), 0);
        well(x, x.yes(1, 1), 0);
        well(x, x.yes(1, 0), 1);
    }

    @Sentence(in = "Terms 2", says = "HEARD is no less than her BAR now.")
    static void terms2_yesIfHeardIsNoLessThanHerBarNow() {
        GivenUp x = with("suitor s;maid m bar 6 rises 1;thing a of s worth 5;thing b of s worth 1;thing c of s worth 1;");
        give(x, 0);
        well(x, x.yes(0, 0), 0);
        give(x, 1);
        well(x, x.yes(0, 0), 1);
        x.week();
        well(x, x.yes(0, 0), 0);
        give(x, 2);
        well(x, x.yes(0, 0), 1);
        x.bar(0, 0);
        well(x, x.yes(0, 0), 1);
        GivenUp none = with("suitor s;maid m bar 0;maid n bar 1;");
        well(none, none.yes(0, 0), 1);
        well(none, none.yes(0, 1), 0);
    }

    @Sentence(in = "Terms 2", says = "WED: of a YES,")
    static void terms2_wedOfAYes() {
        String text = "suitor s cows 9;maid m bar 5;thing a of s worth 4;thing b of s worth 1;";
        refuses(7, () -> {
            GivenUp x = with(text);
            give(x, 0);
            return x;
        }, x -> x.wed(0, 0));
        GivenUp x = with(text);
        give(x, 0, 1);
        well(x, x.wed(0, 0), 9);
        well(x, x.suitor(0, 5), 0);
        well(x, x.maid(0, 4), 0);
        no(x, x.wed(0, 0), 7);
    }

    @Sentence(in = "Terms 2", says = "if he has as many COWS as her MOTHER asks:")
    static void terms2_wedIfHeHasAsManyCowsAsHerMotherAsks() {
        for (int mother : new int[] {1, 2, 9}) {
            String text = "suitor s cows " + (mother - 1) + ";suitor t cows " + mother + ";maid m bar 0 mother " + mother + ";";
            refuses(7, () -> with(text), x -> x.wed(0, 0));
            GivenUp x = with(text);
            well(x, x.wed(1, 0), 0);
        }
        GivenUp none = with("suitor s;maid m bar 0;");
        well(none, none.wed(0, 0), 0);
    }

    @Sentence(in = "Terms 2", says = "these are hers then.")
    static void terms2_theCowsAreHersThen() {
        GivenUp x = with("suitor s cows 99;suitor t cows 99;maid m bar 0 mother 9;maid n bar 0;");
        well(x, x.wed(0, 0), 90);
        well(x, x.suitor(0, 1), 90);
        well(x, x.suitor(1, 1), 99);
        well(x, x.wed(1, 1), 99);
        well(x, x.suitor(1, 1), 99);
        well(x, x.maid(0, 2), 9);
    }

    // ---- what is LEFT, WEEKS, FAIRS

    @Sentence(in = "Terms 2", says = "LEFT of a SUITOR: the WORTH of what he has (FEIGNED ones, too).")
    static void terms2_leftIsTheWorthOfWhatHeHas() {
        GivenUp x = made();
        well(x, x.suitor(0, 3), 25);
        well(x, x.suitor(1, 3), 11);
        give(x, 0);
        well(x, x.suitor(0, 3), 21);
        x.feign(1);
        well(x, x.suitor(0, 3), 21);
        give(x, 3, 4);
        well(x, x.suitor(1, 3), 0);
        well(x, x.suitor(0, 3), 21);
        GivenUp none = with("suitor s;suitor t;thing a of t worth 99;");
        well(none, none.suitor(0, 3), 0);
        well(none, none.suitor(1, 3), 99);
    }

    @Sentence(in = "Terms 2", says = "LOSS: the WORTH of what is GIVEN.")
    static void terms2_lossIsTheWorthOfWhatIsGiven() {
        GivenUp x = made();
        well(x, x.suitor(0, 4), 0);
        give(x, 0);
        x.feign(1);
        well(x, x.suitor(0, 4), 4);
        x.week();
        x.found(1);
        give(x, 1, 3);
        x.feign(4);
        well(x, x.suitor(0, 4), 25);
        well(x, x.suitor(1, 4), 6);
    }

    @Sentence(in = "Terms 2", says = "BARE: he has nothing (nothing left that is not GIVEN;")
    static void terms2_bareHeHasNothing() {
        GivenUp x = with("suitor s;suitor t;thing a of s worth 0;thing b of s worth 0;thing c of t worth 1;");
        well(x, x.bare(0), 0);
        give(x, 0);
        well(x, x.bare(0), 0);
        x.feign(1);
        well(x, x.bare(0), 0);
        x.found(1);
        x.week();
        give(x, 1);
        well(x, x.bare(0), 1);
        well(x, x.bare(1), 0);
    }

    @Sentence(in = "Terms 2", says = "also one without THINGS).")
    static void terms2_bareWithoutThings() {
        GivenUp x = with("suitor s;suitor t;thing a of t worth 1;");
        well(x, x.bare(0), 1);
        well(x, x.bare(1), 0);
    }

    @Sentence(in = "Terms 2", says = "A WEEK goes by (to 999).")
    static void terms2_aWeekGoesByTo999() {
        GivenUp x = toWeek(with(VALLEY), 997);
        well(x, x.week(), 998);
        well(x, x.week(), 999);
        no(x, x.week(), 4);
        well(x, x.told(6), 999);
        refuses(4, () -> toWeek(with(VALLEY), 999), GivenUp::week);
    }

    @Sentence(in = "Terms 2", says = "BACK: at a FAIR (the WEEK is divisible by FAIR, not 0)")
    static void terms2_backAtAFair() {
        for (int fair : new int[] {1, 2, 3, 19, 20}) {
            GivenUp x = with("suitor s cows 99;thing a of s worth 1;fair " + fair + ";");
            give(x, 0);
            no(x, x.back(0), 7);
            for (int week = 1; week < fair; week++) {
                x.week();
                no(x, x.back(0), 7);
            }
            x.week();
            well(x, x.back(0), 98);
            give(x, 0);
            x.week();
            same(x.back(0), fair == 1 ? 97 : GivenUp.NONE);
            toWeek(x, 3 * fair);
            same(x.back(0), fair == 1 ? GivenUp.NONE : 97);
        }
        GivenUp last = with("suitor s cows 1;thing a of s worth 1;fair 9;");
        give(last, 0);
        toWeek(last, 999);
        well(last, last.back(0), 0);
    }

    private static GivenUp atTheFair(String more) {
        GivenUp x = with("suitor s cows 20;suitor t;maid m bar 0;thing a of s worth 9;thing b of s worth 9;thing c of s worth 9;fair 1;weekly 9;" + more);
        x.week();
        return x;
    }

    @Sentence(in = "Terms 2", says = "a SUITOR who has not WED")
    static void terms2_backOfASuitorWhoHasNotWed() {
        refuses(7, () -> {
            GivenUp x = atTheFair("");
            give(x, 0);
            x.wed(0, 0);
            return x;
        }, x -> x.back(0));
        GivenUp other = atTheFair("");
        give(other, 0);
        other.wed(1, 0);
        well(other, other.back(0), 19);
    }

    @Sentence(in = "Terms 2", says = "gets a GIVEN THING back")
    static void terms2_backAGivenThing() {
        refuses(7, () -> atTheFair(""), x -> x.back(0));
        refuses(7, () -> {
            GivenUp x = atTheFair("");
            x.feign(0);
            return x;
        }, x -> x.back(0));
        GivenUp x = atTheFair("");
        give(x, 0, 1);
        well(x, x.back(0), 19);
        well(x, x.thing(0, 2), 0);
        well(x, x.told(8), 2);
        well(x, x.suitor(0, 3), 18);
        well(x, x.suitor(0, 4), 9);
        well(x, x.heard(0, 0), 9);
        no(x, x.back(0), 7);
        well(x, x.give(0), 18);
    }

    @Sentence(in = "Terms 2", says = "for COWS: its WORTH by 10, rounded up, 1 at least;")
    static void terms2_backForCows() {
        int[][] prices = {{0, 1}, {1, 1}, {9, 1}, {10, 1}, {11, 2}, {19, 2}, {20, 2}, {21, 3}, {89, 9}, {90, 9}, {91, 10}, {99, 10}};
        for (int[] price : prices) {
            String thing = "thing a of s worth " + price[0] + ";fair 1;";
            GivenUp rich = with("suitor s cows 99;" + thing);
            give(rich, 0);
            rich.week();
            well(rich, rich.back(0), 99 - price[1]);
            GivenUp just = with("suitor s cows " + price[1] + ";" + thing);
            give(just, 0);
            just.week();
            well(just, just.back(0), 0);
            refuses(7, () -> {
                GivenUp x = with("suitor s cows " + (price[1] - 1) + ";" + thing);
                give(x, 0);
                x.week();
                return x;
            }, x -> x.back(0));
        }
    }

    @Sentence(in = "Terms 2", says = "not if another THING that is GIVEN is AFTER it.")
    static void terms2_backNotIfAGivenThingIsAfterIt() {
        refuses(7, () -> {
            GivenUp x = atTheFair("after b a;");
            give(x, 0, 1);
            return x;
        }, x -> x.back(0));
        GivenUp x = atTheFair("after b a;after c b;");
        give(x, 0, 1, 2);
        no(x, x.back(0), 7);
        no(x, x.back(1), 7);
        well(x, x.back(2), 19);
        well(x, x.back(1), 18);
        well(x, x.back(0), 17);
        GivenUp turned = atTheFair("after a c;");
        give(turned, 2, 0);
        no(turned, turned.back(2), 7);
        well(turned, turned.back(0), 19);
        GivenUp had = atTheFair("after b a;");
        give(had, 0);
        well(had, had.back(0), 19);
        GivenUp feigned = atTheFair("after b a;");
        give(feigned, 0);
        feigned.feign(1);
        well(feigned, feigned.back(0), 19);
    }

    // ---- WOULD HAVE, PROUD

    private static final String FOUR = "suitor s age 30;suitor t age 40;suitor u age 40;suitor v age 0;maid m bar 0;maid n bar 0;"
            + "thing a of s worth 5;thing b of t worth 5;thing c of u worth 6;thing d of v worth 5;says c to n 4;";

    @Sentence(in = "Terms 2", says = "WOULD HAVE: of SUITORS who have not WED")
    static void terms2_wouldHaveOfThoseWhoHaveNotWed() {
        GivenUp x = with(FOUR);
        give(x, 2);
        well(x, x.wouldHave(0), 2);
        x.wed(2, 1);
        well(x, x.wouldHave(0), 1);
        well(x, x.wouldHave(1), 1);
        x.wed(1, 0);
        well(x, x.wouldHave(0), 0);
        GivenUp none = with("suitor s;maid m bar 0;maid n bar 0;");
        none.wed(0, 0);
        no(none, none.wouldHave(0), 6);
        no(none, none.wouldHave(1), 6);
    }

    @Sentence(in = "Terms 2", says = "that whom a MAID HEARD the most,")
    static void terms2_wouldHaveWhomSheHeardTheMost() {
        GivenUp x = with(FOUR);
        give(x, 3);
        well(x, x.wouldHave(0), 3);
        give(x, 0);
        well(x, x.wouldHave(0), 0);
        x.feign(2);
        well(x, x.wouldHave(0), 2);
        well(x, x.wouldHave(1), 0);
    }

    @Sentence(in = "Terms 2", says = "of several the elder one, then the first.")
    static void terms2_wouldHaveTheElderThenTheFirst() {
        GivenUp x = with(FOUR);
        well(x, x.wouldHave(0), 1);
        give(x, 0, 3);
        well(x, x.wouldHave(0), 0);
        give(x, 1);
        well(x, x.wouldHave(0), 1);
        GivenUp first = with("suitor s age 9;suitor t;suitor u;suitor v;maid m bar 0;");
        well(first, first.wouldHave(0), 1);
    }

    @Sentence(in = "Terms 2", says = "PROUD: THINGS that SAY more to a MAID than their WORTH.")
    static void terms2_proudAreThoseThatSayMoreThanTheirWorth() {
        GivenUp x = with("suitor s;suitor t;maid m bar 0;maid n bar 0;thing a of s worth 5;thing b of s worth 5;thing c of s worth 5;"
                + "thing d of t worth 0;thing e of t worth 98;says a to m 4;says b to m 5;says c to m 6;says d to m 1;says e to m 99;"
                + "says a to n 6;");
        well(x, x.proud(0), 4 + 8 + 16);
        well(x, x.proud(1), 1);
        give(x, 2);
        x.feign(3);
        well(x, x.proud(0), 4 + 8 + 16);
        StringBuilder text = new StringBuilder("suitor s;maid m bar 0;");
        for (char c = 'a'; c <= 'l'; c++) {
            text.append("thing ").append(c).append("x of s worth 98;says ").append(c).append("x to m ").append(c % 2 == 1 ? 99 : 98).append(";");
        }
        GivenUp twelve = with(text.toString());
        well(twelve, twelve.proud(0), 0x555);
    }
}
