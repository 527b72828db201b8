import java.util.ArrayList;
import java.util.List;

/** Terms 3: LEAST and what goes with it, RIVALS, the VILLAGE, who BOLTS, who is kept, ORDERS, what NEVER can be. */
final class Terms3Sentences extends Due {
    // ---- LEAST

    @Sentence(in = "Terms 3", says = "LEAST for a SUITOR and a MAID in w WEEKS (0 to 99):")
    static void terms3_leastIn0To99Weeks() {
        String text = "suitor s;maid m bar 12;weekly 1;thing a of s worth 4;thing b of s worth 4;thing c of s worth 4;";
        for (String call : new String[] {"least", "leastSet", "fewest", "most"}) {
            ranges(() -> with(text), call, new int[][] {null, null, {0, 99}}, 0, 0, 2);
        }
        GivenUp x = with(text);
        no(x, x.least(0, 0, 0), 6);
        no(x, x.least(0, 0, 1), 6);
        well(x, x.least(0, 0, 2), 12);
        well(x, x.least(0, 0, 99), 12);
    }

    @Sentence(in = "Terms 3", says = "THINGS that he GIVES")
    static void terms3_leastByThingsThatHeGives() {
        GivenUp x = with("suitor s;suitor t;maid m bar 5;maid n bar 9;thing a of t worth 0;thing b of s worth 5;thing c of s worth 6;"
                + "says a to m 99;says a to n 99;");
        well(x, x.least(0, 0, 0), 5);
        well(x, x.leastSet(0, 0, 0), 2);
        well(x, x.least(1, 0, 0), 0);
        well(x, x.leastSet(1, 0, 0), 1);
        give(x, 1);
        // What is GIVEN helps, but is not GIVEN once more.
        well(x, x.least(0, 0, 0), 0);
        well(x, x.leastSet(0, 0, 0), 0);
        well(x, x.fewest(0, 0, 0), 0);
        well(x, x.leastSet(0, 1, 0), 4);
        well(x, x.least(0, 1, 0), 6);
        well(x, x.told(8), 2);
    }

    @Sentence(in = "Terms 3", says = "(none FEIGNED by it; FEIGNED ones stay so),")
    static void terms3_leastFeignsNoneAndLeavesTheFeigned() {
        String text = "suitor s;maid m bar 9;thing a of s worth 1;thing b of s worth 5;thing c of s worth 2;says a to m 9;after c a;weekly 9;";
        GivenUp x = with(text);
        well(x, x.least(0, 0, 0), 1);
        x.feign(0);
        well(x, x.least(0, 0, 0), 0);
        well(x, x.leastSet(0, 0, 0), 0);
        x.bar(0, 14);
        well(x, x.least(0, 0, 0), 5);
        well(x, x.leastSet(0, 0, 0), 2);
        well(x, x.most(0, 0, 99), 14);
        // The FEIGNED one is not GIVEN, so what is AFTER it can't be.
        x.bar(0, 15);
        no(x, x.least(0, 0, 99), 6);
        well(x, x.told(9), 1);
    }

    @Sentence(in = "Terms 3", says = "so that she says YES in this WEEK or one of the next w, by her BAR then:")
    static void terms3_leastByHerBarThen() {
        GivenUp x = with("suitor s;maid m bar 7 rises 3;thing a of s worth 4;thing b of s worth 4;thing c of s worth 5;weekly 1;");
        // 5 against 7, 9 against 10, 13 against 13.
        no(x, x.least(0, 0, 1), 6);
        well(x, x.least(0, 0, 2), 13);
        x.bar(0, 8);
        no(x, x.least(0, 0, 99), 6);
        GivenUp y = with("suitor s;maid m bar 7 rises 1;thing a of s worth 3;thing b of s worth 5;thing c of s worth 9;weekly 1;");
        well(y, y.least(0, 0, 0), 9);
        // 3 and 5 against 8, one WEEK later.
        well(y, y.least(0, 0, 1), 8);
        y.week();
        well(y, y.least(0, 0, 99), 9);
        y.bar(0, 9);
        well(y, y.least(0, 0, 1), 12);
        y.bar(0, 8);
        well(y, y.least(0, 0, 99), 9);
    }

    @Sentence(in = "Terms 3", says = "in this WEEK and j more he can GIVE what is left of WEEKLY now, and j times WEEKLY;")
    static void terms3_leastByWhatIsLeftOfWeekly() {
        String text = "suitor s;maid m bar 3;weekly 2;thing a of s worth 1;thing b of s worth 1;thing c of s worth 1;thing d of s worth 1;"
                + "thing e of s worth 1;thing f of s worth 0;";
        GivenUp x = with(text);
        no(x, x.least(0, 0, 0), 6);
        well(x, x.soonest(0, 0), 1);
        x.bar(0, 2);
        well(x, x.soonest(0, 0), 0);
        x.bar(0, 4);
        well(x, x.soonest(0, 0), 1);
        x.bar(0, 5);
        well(x, x.soonest(0, 0), 2);
        // One is GIVEN, for nothing: one is left now.
        give(x, 5);
        x.bar(0, 1);
        well(x, x.soonest(0, 0), 0);
        x.bar(0, 3);
        well(x, x.soonest(0, 0), 1);
        x.bar(0, 4);
        no(x, x.least(0, 0, 1), 6);
        well(x, x.soonest(0, 0), 2);
        x.feign(0);
        // And one is FEIGNED: none is left now.
        x.bar(0, 2);
        no(x, x.least(0, 0, 0), 6);
        well(x, x.least(0, 0, 1), 1);
        x.bar(0, 4);
        well(x, x.soonest(0, 0), 2);
    }

    @Sentence(in = "Terms 3", says = "each THING behind all it is AFTER.")
    static void terms3_leastEachThingBehindAllItIsAfter() {
        GivenUp x = with("suitor s;maid m bar 50;thing a of s worth 50;thing b of s worth 2;thing c of s worth 3;after a b;after b c;weekly 3;");
        well(x, x.leastSet(0, 0, 0), 7);
        well(x, x.least(0, 0, 0), 55);
        well(x, x.fewest(0, 0, 0), 3);
        give(x, 2);
        well(x, x.leastSet(0, 0, 0), 3);
        GivenUp slow = with("suitor s;maid m bar 50;thing a of s worth 50;thing b of s worth 2;thing c of s worth 3;after a b;after b c;weekly 2;");
        well(slow, slow.soonest(0, 0), 1);
        GivenUp ring = with("suitor s;maid m bar 50;thing a of s worth 50;thing b of s worth 2;thing c of s worth 50;after a b;after b a;after c a;weekly 9;");
        no(ring, ring.least(0, 0, 99), 6);
        well(ring, ring.most(0, 0, 99), 0);
    }

    @Sentence(in = "Terms 3", says = "(WEEKS behind 999 never come.)")
    static void terms3_weeksBehind999NeverCome() {
        String text = "suitor s;maid m bar 2;maid n bar 3;weekly 1;thing a of s worth 1;thing b of s worth 1;thing c of s worth 1;";
        GivenUp x = toWeek(with(text), 998);
        well(x, x.least(0, 0, 99), 2);
        well(x, x.soonest(0, 0), 1);
        no(x, x.least(0, 1, 99), 6);
        no(x, x.soonest(0, 1), 6);
        well(x, x.most(0, 0, 99), 2);
        x.week();
        no(x, x.least(0, 0, 99), 6);
        well(x, x.most(0, 0, 99), 1);
        x.bar(0, 1);
        well(x, x.least(0, 0, 99), 1);
        GivenUp y = toWeek(with(text), 997);
        well(y, y.soonest(0, 1), 2);
    }

    @Sentence(in = "Terms 3", says = "The set with the least WORTH together;")
    static void terms3_theSetWithTheLeastWorth() {
        GivenUp x = with("suitor s;maid m bar 10;thing a of s worth 9;thing b of s worth 4;thing c of s worth 4;thing d of s worth 0;"
                + "says a to m 10;says b to m 5;says c to m 5;says d to m 0;weekly 9;");
        well(x, x.least(0, 0, 0), 8);
        well(x, x.leastSet(0, 0, 0), 6);
        well(x, x.fewest(0, 0, 0), 1);
        x.bar(0, 0);
        well(x, x.least(0, 0, 0), 0);
        well(x, x.leastSet(0, 0, 0), 0);
        x.bar(0, 20);
        well(x, x.least(0, 0, 0), 17);
        x.bar(0, 21);
        no(x, x.least(0, 0, 0), 6);
    }

    @Sentence(in = "Terms 3", says = "of several the fewest,")
    static void terms3_ofSeveralTheFewest() {
        GivenUp x = with("suitor s;maid m bar 4;thing a of s worth 2;thing b of s worth 2;thing c of s worth 0;thing d of s worth 4;weekly 9;");
        well(x, x.leastSet(0, 0, 0), 8);
        well(x, x.least(0, 0, 0), 4);
    }

    @Sentence(in = "Terms 3", says = "then the least as a number (1 for THING 0 ..).")
    static void terms3_thenTheLeastAsANumber() {
        // 1 and 3, or 2 and 2: THINGS 0 and 3 are 9, THINGS 1 and 2 are 6.
        GivenUp x = with("suitor s;maid m bar 4;thing a of s worth 1;thing b of s worth 2;thing c of s worth 2;thing d of s worth 3;");
        well(x, x.leastSet(0, 0, 0), 6);
        GivenUp y = with("suitor s;maid m bar 4;thing a of s worth 4;thing b of s worth 4;thing c of s worth 4;");
        well(y, y.leastSet(0, 0, 0), 1);
        GivenUp z = with("suitor s;maid m bar 4;thing a of s worth 4;thing b of s worth 4;thing c of s worth 2;thing d of s worth 2;after a c;after b d;");
        well(z, z.leastSet(0, 0, 0), 12);
    }

    @Sentence(in = "Terms 3", says = "FEWEST: by the fewest THINGS.")
    static void terms3_fewest() {
        GivenUp x = with("suitor s;maid m bar 9;thing a of s worth 3;thing b of s worth 3;thing c of s worth 3;thing d of s worth 10;weekly 9;");
        well(x, x.least(0, 0, 0), 9);
        well(x, x.fewest(0, 0, 0), 1);
        x.bar(0, 0);
        well(x, x.fewest(0, 0, 0), 0);
        x.bar(0, 19);
        well(x, x.fewest(0, 0, 0), 4);
        // In fewer WEEKS or more: by one alone, if she says YES then.
        GivenUp y = with("suitor s;maid m bar 2;thing a of s worth 0;thing b of s worth 0;thing c of s worth 1;says a to m 1;says b to m 1;says c to m 3;weekly 1;");
        well(y, y.fewest(0, 0, 99), 1);
        well(y, y.leastSet(0, 0, 99), 3);
    }

    @Sentence(in = "Terms 3", says = "SOONEST: the fewest WEEKS more (0 to 99).")
    static void terms3_soonest() {
        String text = "suitor s;maid m bar 0;weekly 1;" + things(12, 1);
        for (int bar = 0; bar <= 12; bar++) {
            GivenUp x = with(text);
            x.bar(0, bar);
            well(x, x.soonest(0, 0), Math.max(0, bar - 1));
        }
        GivenUp never = with(text);
        never.bar(0, 13);
        no(never, never.soonest(0, 0), 6);
        // A YES as it is, though nothing more can be GIVEN in this WEEK.
        GivenUp now = with(text);
        give(now, 3);
        well(now, now.soonest(0, 0), 0);
        now.bar(0, 2);
        well(now, now.soonest(0, 0), 1);
        // The dear one is the SOONEST, though it is not the LEAST.
        GivenUp dear = with("suitor s;maid m bar 4;thing a of s worth 2;thing b of s worth 2;thing c of s worth 9;weekly 1;");
        well(dear, dear.soonest(0, 0), 0);
        well(dear, dear.leastSet(0, 0, 9), 3);
    }

    @Sentence(in = "Terms 3", says = "MOST: the greatest HEARD that he can come to in w WEEKS, whatever her BAR is.")
    static void terms3_most() {
        GivenUp x = with("suitor s;suitor t;maid m bar 999;maid n bar 0;thing a of s worth 1;thing b of s worth 50;thing c of s worth 20;"
                + "thing d of t worth 99;after b a;weekly 1;says c to n 99;");
        well(x, x.most(0, 0, 0), 20);
        well(x, x.most(0, 0, 1), 51);
        well(x, x.most(0, 0, 2), 71);
        well(x, x.most(0, 0, 99), 71);
        well(x, x.most(0, 1, 0), 99);
        well(x, x.most(0, 1, 99), 150);
        give(x, 0);
        well(x, x.most(0, 0, 0), 1);
        well(x, x.most(0, 0, 1), 51);
        x.week();
        x.feign(2);
        well(x, x.most(0, 0, 0), 21);
        well(x, x.most(0, 0, 9), 71);
        GivenUp none = with("suitor s;maid m bar 999;");
        well(none, none.most(0, 0, 99), 0);
    }

    // ---- RIVALS

    @Sentence(in = "Terms 3", says = "RIVALS of two for a MAID: who is SOONEST (never: last),")
    static void terms3_rivalsWhoIsSoonest() {
        GivenUp x = with("suitor s age 99;suitor t age 0;suitor u age 50;maid m bar 4;thing a of s worth 2;thing b of s worth 2;"
                + "thing c of t worth 4;thing d of u worth 3;weekly 1;");
        well(x, x.rivals(0, 1, 0), 1);
        well(x, x.rivals(1, 0, 0), 1);
        well(x, x.rivals(0, 2, 0), 0);
        well(x, x.rivals(2, 0, 0), 0);
        well(x, x.rivals(2, 1, 0), 1);
        x.bar(0, 5);
        no(x, x.rivals(0, 1, 0), 6);
        no(x, x.rivals(2, 1, 0), 6);
    }

    @Sentence(in = "Terms 3", says = "of both alike the elder,")
    static void terms3_rivalsOfBothAlikeTheElder() {
        GivenUp x = with("suitor s age 20;suitor t age 21;suitor u;maid m bar 4;thing a of s worth 4;thing b of t worth 9;thing c of u worth 4;");
        well(x, x.rivals(0, 1, 0), 1);
        well(x, x.rivals(1, 0, 0), 1);
        well(x, x.rivals(2, 1, 0), 1);
    }

    @Sentence(in = "Terms 3", says = "then that with the lesser number.")
    static void terms3_rivalsThenTheLesserNumber() {
        GivenUp x = with("suitor s;suitor t age 20;suitor u;maid m bar 0;thing a of u worth 9;");
        well(x, x.rivals(0, 1, 0), 0);
        well(x, x.rivals(1, 0, 0), 0);
        well(x, x.rivals(2, 1, 0), 1);
        well(x, x.rivals(1, 2, 0), 1);
    }

    // ---- VILLAGE

    @Sentence(in = "Terms 3", says = "VILLAGE in w WEEKS: SUITORS and MAIDS that have not WED,")
    static void terms3_villageOfThoseThatHaveNotWed() {
        GivenUp x = with("suitor s;suitor t;suitor u;maid m bar 0;maid n bar 0;maid o bar 0;");
        well(x, x.village(0, 0), 3);
        x.wed(0, 1);
        well(x, x.village(0, 0), 2);
        no(x, x.villager(0, 0), 6);
        well(x, x.villager(0, 1), 0);
        well(x, x.villager(0, 2), 2);
        x.wed(1, 0);
        x.wed(2, 2);
        well(x, x.village(99, 0), 0);
        well(x, x.village(99, 1), 0);
        // None is left of what was asked of others ahead.
        GivenUp none = with("suitor s;maid m bar 2;thing a of s worth 2;");
        well(none, none.village(0, 1), 2);
        well(none, none.villager(0, 0), 0);
        none.bar(0, 3);
        well(none, none.village(0, 1), 0);
        well(none, none.village(0, 0), 0);
        no(none, none.villager(0, 0), 6);
        GivenUp later = with("suitor s;maid m bar 2;thing a of s worth 1;thing b of s worth 1;weekly 1;");
        well(later, later.village(0, 0), 0);
        well(later, later.village(1, 0), 1);
        well(later, later.village(1, 1), 2);
    }

    @Sentence(in = "Terms 3", says = "each couple by LEAST in w WEEKS (COWS not minded),")
    static void terms3_villageByLeastCowsNotMinded() {
        GivenUp x = with("suitor s;maid m bar 5 mother 9;thing a of s worth 9;thing b of s worth 3;thing c of s worth 2;");
        well(x, x.village(0, 0), 1);
        well(x, x.village(0, 1), 5);
        well(x, x.villager(0, 0), 0);
        x.bar(0, 14);
        well(x, x.village(0, 0), 0);
        well(x, x.village(1, 1), 14);
    }

    @Sentence(in = "Terms 3", says = "each in one at most: the most couples;")
    static void terms3_villageTheMostCouples() {
        // Alone s would wed m for nothing; but then t weds nobody.
        GivenUp x = with("suitor s;suitor t;maid m bar 0;maid n bar 90;thing a of s worth 90;");
        well(x, x.village(0, 0), 2);
        well(x, x.village(0, 1), 90);
        well(x, x.villager(0, 0), 1);
        well(x, x.villager(0, 1), 0);
        GivenUp one = with("suitor s;suitor t;suitor u;suitor v;maid m bar 0;");
        well(one, one.village(0, 0), 1);
        GivenUp four = with("maid m bar 0;maid n bar 0;maid o bar 0;maid p bar 0;suitor s;");
        well(four, four.village(0, 0), 1);
        well(four, four.villager(0, 0), 0);
    }

    @Sentence(in = "Terms 3", says = "of several ways the least LOSS together;")
    static void terms3_villageTheLeastLossTogether() {
        GivenUp x = with("suitor s;suitor t;maid m bar 5;maid n bar 5;thing a of s worth 5;thing b of s worth 1;thing c of t worth 5;thing d of t worth 2;"
                + "says b to n 5;says d to n 5;");
        // s by m, t by n: 5 and 2; s by n, t by m: 1 and 5.
        well(x, x.village(0, 0), 2);
        well(x, x.village(0, 1), 6);
        well(x, x.villager(0, 0), 1);
        well(x, x.villager(0, 1), 0);
    }

    @Sentence(in = "Terms 3", says = "of several the first by the MAIDS of SUITOR 0, 1 .. (none behind all).")
    static void terms3_villageTheFirstByTheMaids() {
        GivenUp x = with("suitor s;suitor t;suitor u;maid m bar 5;maid n bar 5;thing a of s worth 5;thing b of t worth 5;thing c of u worth 5;");
        well(x, x.village(0, 0), 2);
        well(x, x.villager(0, 0), 0);
        well(x, x.villager(0, 1), 1);
        no(x, x.villager(0, 2), 6);
        GivenUp four = with("suitor s;suitor t;suitor u;suitor v;maid m bar 0;maid n bar 0;maid o bar 0;maid p bar 0;");
        for (int suitor = 0; suitor < 4; suitor++) {
            well(four, four.villager(0, suitor), suitor);
        }
        // Only v can wed m, and one of the others n.
        GivenUp y = with("suitor s;suitor t;suitor v;maid m bar 9;maid n bar 5;thing a of s worth 5;thing b of t worth 5;thing c of v worth 9;");
        well(y, y.villager(0, 0), 1);
        no(y, y.villager(0, 1), 6);
        well(y, y.villager(0, 2), 0);
        // By MAIDS in their order: s by the first, though he could have the last as well.
        GivenUp z = with("suitor s;suitor t;maid m bar 3;maid n bar 3;maid o bar 3;thing a of s worth 3;thing b of t worth 3;");
        well(z, z.villager(0, 0), 0);
        well(z, z.villager(0, 1), 1);
    }

    // ---- BOLTS

    // s LIKES n more than m, t likewise; m HEARD t more than s, n HEARD s more than t; u is LIKED and HEARD by nobody.
    private static final String COUPLES = "suitor s;suitor t;suitor u;maid m bar 0;maid n bar 0;thing a of s worth 3;thing b of t worth 3;"
            + "says a to n 5;says b to m 4;likes s m 1;likes s n 2;likes t m 1;likes t n 2;likes u m 9;";

    private static GivenUp couples(long... maids) {
        GivenUp x = with(COUPLES);
        give(x, 0, 1);
        return row(x, 0, maids);
    }

    @Sentence(in = "Terms 3", says = "BOLTS: a TRAY tells for each SUITOR his MAID (-1: none; no MAID twice):")
    static void terms3_boltsATrayTellsForEachSuitorHisMaid() {
        well(couples(0, 1, -1), couples(0, 1, -1).bolts(0), 1);
        for (long bad : new long[] {-2, 2, 3, 1L << 32, (1L << 32) - 1, -1L << 32, Long.MAX_VALUE, Long.MIN_VALUE, 256, 65536}) {
            for (int place = 0; place < 3; place++) {
                long[] maids = {-1, -1, -1};
                maids[place] = bad;
                refuses(5, () -> couples(maids), x -> x.bolts(0));
            }
        }
        for (long twice = 0; twice < 2; twice++) {
            long maid = twice;
            refuses(5, () -> couples(maid, maid, -1), x -> x.bolts(0));
            refuses(5, () -> couples(maid, -1, maid), x -> x.bolts(0));
            refuses(5, () -> couples(-1, maid, maid), x -> x.bolts(0));
        }
        GivenUp none = couples(-1, -1, -1);
        well(none, none.bolts(0), 6);
        // What stands behind the SUITORS tells nothing.
        GivenUp more = couples(1, 0, -1, 99, 1, -5);
        well(more, more.bolts(0), 0);
        refuses(3, () -> couples(1, 0), x -> x.bolts(0));
    }

    /** Likings and what is HEARD of four and four, in which some are alike. */
    private static final int[][] LIKED = {{1, 3, 0, 2}, {1, 2, 2, 3}, {3, 1, 0, 2}, {3, 2, 0, 1}};
    private static final int[][] SAID = {{3, 0, 2, 2}, {0, 2, 1, 0}, {2, 3, 3, 1}, {1, 1, 0, 3}};

    private static GivenUp fourAndFour() {
        StringBuilder text = new StringBuilder("suitor a;suitor b;suitor c;suitor d;maid m bar 9;maid n bar 9;maid o bar 9;maid p bar 9;"
                + "thing e of a worth 9;thing f of b worth 9;thing g of c worth 9;thing h of d worth 9;");
        for (int s = 0; s < 4; s++) {
            for (int m = 0; m < 4; m++) {
                text.append("likes ").append("abcd".charAt(s)).append(" ").append("mnop".charAt(m)).append(" ").append(LIKED[s][m])
                        .append(";says ").append("efgh".charAt(s)).append(" to ").append("mnop".charAt(m)).append(" ")
                        .append(SAID[s][m]).append(";");
            }
        }
        GivenUp x = with(text.toString());
        give(x, 0, 1, 2, 3);
        return x;
    }

    /** Who would bolt from these couples, by the document's words: 4 times the SUITOR and the MAID, in their order. */
    private static List<Integer> bolters(int[] maidOf) {
        List<Integer> all = new ArrayList<>();
        for (int s = 0; s < 4; s++) {
            for (int m = 0; m < 4; m++) {
                int hers = -1;
                for (int other = 0; other < 4; other++) {
                    hers = maidOf[other] == m ? other : hers;
                }
                boolean his = maidOf[s] < 0 || LIKED[s][m] > LIKED[s][maidOf[s]];
                if (maidOf[s] != m && his && (hers < 0 || SAID[s][m] > SAID[hers][m])) {
                    all.add(4 * s + m);
                }
            }
        }
        return all;
    }

    @Sentence(in = "Terms 3", says = "couples, not told ones, of which he LIKES her more than his own, and she HEARD him more than her own")
    static void terms3_boltsOfEachWayToCoupleFourAndFour() {
        GivenUp x = fourAndFour();
        int asked = 0;
        for (int way = 0; way < 625; way++) {
            int[] maidOf = {way % 5 - 1, way / 5 % 5 - 1, way / 25 % 5 - 1, way / 125 - 1};
            long taken = 0;
            boolean twice = false;
            for (int maid : maidOf) {
                twice |= maid >= 0 && (taken >> maid & 1) != 0;
                taken |= maid < 0 ? 0 : 1L << maid;
            }
            // An object is good for 512 calls.
            if (++asked % 25 == 0) {
                x = fourAndFour();
            }
            row(x, 0, maidOf[0], maidOf[1], maidOf[2], maidOf[3]);
            if (twice) {
                no(x, x.bolts(0), 5);
                continue;
            }
            List<Integer> due = bolters(maidOf);
            well(x, x.bolts(0), due.size());
            if (due.isEmpty()) {
                no(x, x.bolter(0, 0), 6);
                no(x, x.bolter(0, 1), 6);
            } else {
                well(x, x.bolter(0, 0), due.get(0) / 4);
                well(x, x.bolter(0, 1), due.get(0) % 4);
            }
        }
    }

    @Sentence(in = "Terms 3", says = "couples, not told ones,")
    static void terms3_boltsCouplesThatAreNotTold() {
        GivenUp x = with("suitor s;maid m bar 0;likes s m 9;thing a of s worth 9;");
        give(x, 0);
        row(x, 0, 0);
        well(x, x.bolts(0), 0);
        row(x, 0, -1);
        well(x, x.bolts(0), 1);
    }

    @Sentence(in = "Terms 3", says = "of which he LIKES her more than his own,")
    static void terms3_boltsHeLikesHerMore() {
        // s by m, t by n: s LIKES n more, and she HEARD him more; t LIKES m less.
        GivenUp x = couples(0, 1, -1);
        well(x, x.bolts(0), 1);
        well(x, x.bolter(0, 0), 0);
        well(x, x.bolter(0, 1), 1);
        x.like(0, 1, 1);
        well(x, x.bolts(0), 0);
        x.like(0, 0, 0);
        well(x, x.bolts(0), 1);
    }

    @Sentence(in = "Terms 3", says = "and she HEARD him more than her own")
    static void terms3_boltsSheHeardHimMore() {
        GivenUp x = with("suitor s age 99;suitor t;maid m bar 0;maid n bar 0;thing a of s worth 3;thing b of t worth 2;thing c of t worth 1;likes s n 2;likes t m 0;");
        give(x, 0, 1);
        row(x, 0, 0, 1);
        well(x, x.bolts(0), 1);
        // HEARD alike is not more, whoever is the elder.
        give(x, 2);
        well(x, x.bolts(0), 0);
    }

    @Sentence(in = "Terms 3", says = "(none is less than any).")
    static void terms3_boltsNoneIsLessThanAny() {
        GivenUp x = with("suitor s;suitor t;maid m bar 0;maid n bar 0;");
        row(x, 0, -1, -1);
        well(x, x.bolts(0), 4);
        row(x, 0, 0, -1);
        // t has none and n has none; s LIKES n no more, m HEARD t no more.
        well(x, x.bolts(0), 1);
        well(x, x.bolter(0, 0), 1);
        well(x, x.bolter(0, 1), 1);
        row(x, 0, 0, 1);
        well(x, x.bolts(0), 0);
    }

    // ---- ASKED

    @Sentence(in = "Terms 3", says = "ASKED: all SUITORS ask, each the MAID that he LIKES the most of those that have not refused him")
    static void terms3_askedTheMaidThatHeLikesTheMost() {
        GivenUp x = with("suitor s age 30;suitor t age 40;suitor u age 50;maid m bar 0;maid n bar 0;maid o bar 0;"
                + "likes s n 5;likes s o 3;likes t n 9;likes t o 1;likes u n 1;");
        // All ask n, who keeps u, the eldest; t and s ask o, who keeps t; s asks m.
        well(x, x.asked(2), 1);
        well(x, x.asked(1), 2);
        well(x, x.asked(0), 0);
        well(x, x.refusals(), 3);
        GivenUp none = with("suitor s;suitor t;maid m bar 0;");
        no(none, none.asked(1), 6);
        well(none, none.refusals(), 1);
    }

    @Sentence(in = "Terms 3", says = "(of several the first);")
    static void terms3_askedOfSeveralTheFirst() {
        GivenUp x = with("suitor s;suitor t;maid m bar 0;maid n bar 0;maid o bar 0;likes s n 3;likes s o 3;");
        well(x, x.asked(0), 1);
        well(x, x.asked(1), 0);
    }

    @Sentence(in = "Terms 3", says = "each keeps him of all that ask her whom she HEARD the most")
    static void terms3_askedSheKeepsWhomSheHeardTheMost() {
        GivenUp x = with("suitor s age 90;suitor t age 80;suitor u age 70;maid m bar 99;maid n bar 0;thing a of u worth 2;thing b of t worth 1;");
        give(x, 1);
        x.feign(0);
        well(x, x.asked(2), 0);
        well(x, x.asked(1), 1);
        no(x, x.asked(0), 6);
    }

    @Sentence(in = "Terms 3", says = "(of several the elder, then the first),")
    static void terms3_askedTheElderThenTheFirst() {
        GivenUp x = with("suitor s age 19;suitor t;suitor u;maid m bar 0;");
        no(x, x.asked(0), 6);
        well(x, x.asked(1), 0);
        no(x, x.asked(2), 6);
        GivenUp y = with("suitor s;suitor t;suitor u age 21;maid m bar 0;");
        well(y, y.asked(2), 0);
    }

    @Sentence(in = "Terms 3", says = "and refuses the others; till nobody is refused more: who keeps whom.")
    static void terms3_askedTillNobodyIsRefusedMore() {
        // t pushes s from m; s pushes u from n; u pushes v from o, who is left.
        GivenUp x = with("suitor s age 40;suitor t age 50;suitor u age 30;suitor v age 20;maid m bar 0;maid n bar 0;maid o bar 0;"
                + "likes s m 9;likes s n 8;likes t m 9;likes u n 9;likes u o 8;likes v o 9;likes v m 8;likes v n 7;");
        well(x, x.asked(0), 1);
        well(x, x.asked(1), 0);
        well(x, x.asked(2), 2);
        no(x, x.asked(3), 6);
        // s by m, u by n, v by o, m and n.
        well(x, x.refusals(), 5);
        // Four and four who ask on and on.
        GivenUp most = fourAndFour();
        most.like(1, 2, 0);
        well(most, most.refusals(), 9);
        int[] due = {0, 2, 1, 3};
        for (int s = 0; s < 4; s++) {
            well(most, most.asked(s), due[s]);
        }
    }

    @Sentence(in = "Terms 3", says = "(All SUITORS, all MAIDS, WED or not.)")
    static void terms3_askedWedOrNot() {
        GivenUp x = with("suitor s;suitor t;maid m bar 0;maid n bar 0;likes t n 1;");
        x.wed(0, 1);
        well(x, x.asked(0), 0);
        well(x, x.asked(1), 1);
        x.wed(1, 0);
        well(x, x.asked(1), 1);
        well(x, x.refusals(), 0);
    }

    // ---- ORDERS, FIRSTS, LASTS, NEVER, DEEP

    // b and c AFTER a, d AFTER both; e free; f and g in a ring, h AFTER f, i AFTER h.
    private static final String ORDERED = "suitor s;suitor t;weekly 9;thing a of s worth 1;thing b of s worth 1;thing c of s worth 1;thing d of s worth 1;"
            + "thing e of s worth 1;thing f of s worth 1;thing g of s worth 1;thing h of s worth 1;thing i of s worth 1;thing j of t worth 1;"
            + "after b a;after c a;after d b;after d c;after f g;after g f;after h f;after i h;";

    // Twelve, of which the first is AFTER the last.
    private static final String TURNED = "suitor s;weekly 9;thing a of s worth 1;thing b of s worth 1;thing c of s worth 1;thing d of s worth 1;"
            + "thing e of s worth 1;thing f of s worth 1;thing g of s worth 1;thing h of s worth 1;thing i of s worth 1;thing j of s worth 1;"
            + "thing k of s worth 1;thing l of s worth 1;after a l;";

    @Sentence(in = "Terms 3", says = "ORDERS of a SUITOR: in how many orders his GIVEN THINGS can have been GIVEN.")
    static void terms3_orders() {
        GivenUp x = with(ORDERED);
        give(x, 0);
        well(x, x.orders(0), 1);
        give(x, 2, 1);
        well(x, x.orders(0), 2);
        give(x, 4);
        well(x, x.orders(0), 2 * 4);
        give(x, 3);
        well(x, x.orders(0), 2 * 5);
        give(x, 9);
        well(x, x.orders(0), 2 * 5);
        well(x, x.orders(1), 1);
        GivenUp feigned = with(ORDERED);
        give(feigned, 0);
        feigned.feign(4);
        well(feigned, feigned.orders(0), 1);
        GivenUp twelve = with("suitor s;weekly 9;" + things(12, 1));
        for (int i = 0; i < 12; i++) {
            if (i == 9) {
                twelve.week();
            }
            give(twelve, i);
        }
        well(twelve, twelve.orders(0), 479001600L);
    }

    @Sentence(in = "Terms 3", says = "FIRSTS: the set of those that can have been the first;")
    static void terms3_firsts() {
        GivenUp x = with(ORDERED);
        well(x, x.ends(0, 0), 0);
        give(x, 0, 1, 2, 3);
        well(x, x.ends(0, 0), 1);
        give(x, 4);
        well(x, x.ends(0, 0), 17);
        well(x, x.ends(1, 0), 0);
        give(x, 9);
        well(x, x.ends(1, 0), 512);
        well(x, x.ends(0, 0), 17);
        GivenUp turned = with(TURNED);
        give(turned, 11, 0, 5);
        well(turned, turned.ends(0, 0), 2048 + 32);
    }

    @Sentence(in = "Terms 3", says = "LASTS: the last.")
    static void terms3_lasts() {
        GivenUp x = with(ORDERED);
        well(x, x.ends(0, 1), 0);
        give(x, 0);
        well(x, x.ends(0, 1), 1);
        give(x, 1, 2);
        well(x, x.ends(0, 1), 6);
        x.feign(3);
        well(x, x.ends(0, 1), 6);
        x.found(3);
        give(x, 3);
        well(x, x.ends(0, 1), 8);
        give(x, 4, 9);
        well(x, x.ends(0, 1), 24);
        well(x, x.ends(1, 1), 512);
        GivenUp turned = with(TURNED);
        give(turned, 11, 0, 5);
        well(turned, turned.ends(0, 1), 1 + 32);
    }

    @Sentence(in = "Terms 3", says = "NEVER can be GIVEN what is AFTER itself by others, or AFTER such a THING.")
    static void terms3_never() {
        GivenUp x = with(ORDERED);
        well(x, x.never(0), 32 + 64 + 128 + 256);
        well(x, x.never(1), 0);
        for (int thing = 5; thing < 9; thing++) {
            no(x, x.give(thing), 7);
            well(x, x.thing(thing, 4), 99);
        }
        // A ring of twelve.
        String line = "suitor s;" + things(12, 1) + eachAfterTheNext();
        GivenUp chain = with(line);
        well(chain, chain.never(0), 0);
        GivenUp ring = with(line + "after lx ax;");
        well(ring, ring.never(0), 4095);
    }

    @Sentence(in = "Terms 3", says = "DEEP of a THING: how many others must be GIVEN ahead of it, at once or by others (99: it NEVER can be).")
    static void terms3_deep() {
        GivenUp x = with(ORDERED);
        int[] deep = {0, 1, 1, 3, 0, 99, 99, 99, 99, 0};
        for (int thing = 0; thing < deep.length; thing++) {
            well(x, x.thing(thing, 4), deep[thing]);
        }
        give(x, 0, 1);
        well(x, x.thing(3, 4), 3);
        GivenUp chain = with("suitor s;" + things(12, 1) + eachAfterTheNext());
        for (int thing = 0; thing < 12; thing++) {
            well(chain, chain.thing(thing, 4), 11 - thing);
        }
    }
}
