/** Promises 37 to 46: the LEAST, the FEWEST, the SOONEST, the MOST, RIVALS, the VILLAGE. */
public final class PlansTest {
    private static final String VALLEY = "suitor s age 30;suitor t age 30;suitor u age 50;maid m bar 12 rises 1;maid n bar 6;"
            + "thing a of s worth 5;thing b of s worth 7;thing c of s worth 6;thing d of s worth 6;thing e of s worth 3;"
            + "thing f of t worth 8;thing g of t worth 2;says g to n 6;says f to n 0;after e b;";

    public static void main(String[] args) {
        wrongNumbers();
        least();
        ties();
        weeks();
        lastWeek();
        afters();
        feigned();
        wedded();
        most();
        rivals();
        cheapestAndWithin();
        village();
        villageTies();
        Check.end("PlansTest");
    }

    private static void wrongNumbers() {
        GivenUp x = Check.with(VALLEY);
        int[][] bad = {{-1, 0, 0}, {3, 0, 0}, {0, -1, 0}, {0, 2, 0}, {0, 0, -1}, {0, 0, 100}};
        for (int[] b : bad) {
            Check.refused(x, "least of wrong numbers", x.least(b[0], b[1], b[2]), 1);
            Check.refused(x, "leastSet of wrong numbers", x.leastSet(b[0], b[1], b[2]), 1);
            Check.refused(x, "fewest of wrong numbers", x.fewest(b[0], b[1], b[2]), 1);
            Check.refused(x, "most of wrong numbers", x.most(b[0], b[1], b[2]), 1);
        }
        int[][] pairs = {{-1, 0}, {3, 0}, {0, -1}, {0, 2}};
        for (int[] b : pairs) {
            Check.refused(x, "soonest of wrong numbers", x.soonest(b[0], b[1]), 1);
        }
        int[][] spans = {{-1, 0}, {3, 0}, {0, -1}, {0, 100}};
        for (int[] b : spans) {
            Check.refused(x, "cheapest of wrong numbers", x.cheapest(b[0], b[1]), 1);
            Check.refused(x, "within of wrong numbers", x.within(b[0], b[1]), 1);
            Check.refused(x, "villager of wrong numbers", x.villager(b[1], b[0]), 1);
        }
        Check.refused(x, "village(-1, 0)", x.village(-1, 0), 1);
        Check.refused(x, "village(100, 0)", x.village(100, 0), 1);
        Check.refused(x, "village(0, -1)", x.village(0, -1), 1);
        Check.refused(x, "village(0, 2)", x.village(0, 2), 1);
    }

    private static void least() {
        GivenUp x = Check.with(VALLEY);
        Check.well(x, "LEAST for n", x.least(0, 1, 0), 6);
        Check.well(x, "alike: the least as a number", x.leastSet(0, 1, 0), 4);
        Check.well(x, "FEWEST for n", x.fewest(0, 1, 0), 1);
        Check.well(x, "LEAST for m in this WEEK", x.least(0, 0, 0), 12);
        Check.well(x, "its set: a and b, ahead of c and d", x.leastSet(0, 0, 0), 3);
        Check.well(x, "FEWEST for m", x.fewest(0, 0, 0), 2);
        Check.well(x, "it can't be less later", x.least(0, 0, 9), 12);
        Check.refused(x, "not in this WEEK", x.least(1, 0, 0), 6);
        Check.refused(x, "no set of it", x.leastSet(1, 0, 0), 6);
        Check.refused(x, "no count of it", x.fewest(1, 0, 0), 6);
        Check.refused(x, "without THINGS", x.least(2, 0, 99), 6);
        x.bar(1, 0);
        Check.well(x, "a YES as it is", x.least(2, 1, 0), 0);
        Check.well(x, "by giving nothing", x.leastSet(2, 1, 0), 0);
        Check.well(x, "by none", x.fewest(2, 1, 0), 0);
        Check.well(x, "at once", x.soonest(2, 1), 0);
        Check.well(x, "by nothing, though he has THINGS", x.least(0, 1, 9), 0);
        Check.well(x, "its set", x.leastSet(0, 1, 9), 0);
        Check.well(x, "its count", x.fewest(0, 1, 9), 0);
        Check.well(x, "its WEEKS", x.soonest(0, 1), 0);
        GivenUp y = Check.with("suitor s;maid m bar 0;thing a of s worth 1;thing b of s worth 1;weekly 1;");
        y.give(0);
        Check.well(y, "at once, though more would be later", y.soonest(0, 0), 0);
        x.bar(1, 6);
        x.give(0);
        Check.well(x, "what is GIVEN helps", x.least(0, 1, 0), 6);
        Check.well(x, "one is left for this WEEK", x.leastSet(0, 0, 0), 2);
        Check.well(x, "and that is no plan that is carried out", x.told(8), 1);
        Check.well(x, "t for n", x.leastSet(1, 1, 0), 64);
        Check.well(x, "a THING worth 2 that SAYS 6", x.least(1, 1, 0), 2);
    }

    private static void ties() {
        GivenUp x = Check.with("suitor s;maid m bar 4;thing a of s worth 2;thing b of s worth 2;thing c of s worth 4;"
                + "thing d of s worth 0;says d to m 0;weekly 9;");
        Check.well(x, "alike in WORTH", x.least(0, 0, 0), 4);
        Check.well(x, "the fewest of those", x.leastSet(0, 0, 0), 4);
        GivenUp y = Check.with("suitor s;maid m bar 4;thing a of s worth 9;thing b of s worth 1;thing c of s worth 1;"
                + "thing d of s worth 1;says a to m 4;says b to m 2;says c to m 2;says d to m 2;weekly 9;");
        Check.well(y, "LEAST by two", y.least(0, 0, 0), 2);
        Check.well(y, "b and c", y.leastSet(0, 0, 0), 6);
        Check.well(y, "FEWEST by one that is dear", y.fewest(0, 0, 0), 1);
    }

    private static void weeks() {
        GivenUp x = Check.with("suitor s;maid m bar 10 rises 3;thing a of s worth 4;thing b of s worth 4;thing c of s worth 5;"
                + "thing d of s worth 9;says d to m 0;weekly 1;");
        // 4 against 10, 9 against 13, 13 against 16: never.
        Check.refused(x, "a BAR that rises too fast", x.soonest(0, 0), 6);
        Check.refused(x, "nor in 99", x.least(0, 0, 99), 6);
        x.bar(0, 7);
        // 5 against 7, 9 against 10, 13 against 13.
        Check.refused(x, "not in one more", x.least(0, 0, 1), 6);
        Check.well(x, "in two more", x.least(0, 0, 2), 13);
        Check.well(x, "SOONEST", x.soonest(0, 0), 2);
        Check.well(x, "FEWEST", x.fewest(0, 0, 2), 3);
        x.give(2);
        Check.well(x, "GIVEN now, two more as ahead", x.soonest(0, 0), 2);
        Check.refused(x, "nothing is left for this WEEK", x.least(0, 0, 1), 6);
        x.bar(0, 6);
        Check.refused(x, "5 against 6, and no more this WEEK", x.least(0, 0, 0), 6);
        Check.well(x, "9 against 9", x.least(0, 0, 1), 4);
        x.week();
        Check.well(x, "the same from the WEEK behind", x.soonest(0, 0), 0);
        Check.well(x, "its set", x.leastSet(0, 0, 0), 1);
        GivenUp y = Check.with("suitor s;maid m bar 8 rises 1;thing a of s worth 3;thing b of s worth 5;thing c of s worth 3;"
                + "thing d of s worth 9;weekly 1;");
        Check.well(y, "LEAST", y.least(0, 0, 0), 9);
        Check.well(y, "LEAST is no later", y.least(0, 0, 9), 9);
        y.bar(0, 7);
        Check.well(y, "less by two WEEKS: 3 and 5 against 8", y.least(0, 0, 9), 8);
        Check.well(y, "that set", y.leastSet(0, 0, 9), 3);
        Check.well(y, "FEWEST is another one", y.fewest(0, 0, 9), 1);
        Check.well(y, "SOONEST is now", y.soonest(0, 0), 0);
    }

    private static void lastWeek() {
        StringBuilder text = new StringBuilder("suitor s;maid m bar 12;weekly 1;");
        for (char c = 'a'; c <= 'l'; c++) {
            text.append("thing ").append(c).append("x of s worth 1;");
        }
        GivenUp x = Check.with(text.toString());
        Check.well(x, "all twelve", x.soonest(0, 0), 11);
        Check.refused(x, "one WEEK too few", x.least(0, 0, 10), 6);
        Check.well(x, "enough of them", x.least(0, 0, 11), 12);
        Due.toWeek(x, 988);
        Check.well(x, "in WEEK 999", x.soonest(0, 0), 11);
        x.week();
        Check.refused(x, "WEEK 1000 never comes", x.soonest(0, 0), 6);
        Check.refused(x, "nor in 99", x.least(0, 0, 99), 6);
        Check.well(x, "MOST till 999", x.most(0, 0, 99), 11);
        for (int i = 0; i < 10; i++) {
            x.week();
        }
        Check.well(x, "MOST in the last WEEK", x.most(0, 0, 99), 1);
    }

    private static void afters() {
        GivenUp x = Check.with("suitor s;maid m bar 9;thing a of s worth 1;thing b of s worth 2;thing c of s worth 9;"
                + "thing d of s worth 9;thing e of s worth 9;after c b;after b a;after d e;after e d;");
        Check.refused(x, "what needs two others can't be in one WEEK", x.least(0, 0, 0), 6);
        Check.well(x, "but in two", x.least(0, 0, 1), 12);
        Check.well(x, "its set", x.leastSet(0, 0, 1), 7);
        Check.well(x, "MOST without a ring", x.most(0, 0, 99), 12);
        x.give(0);
        x.week();
        Check.well(x, "behind what is GIVEN", x.leastSet(0, 0, 0), 6);
        x.feign(1);
        Check.refused(x, "not behind what is FEIGNED", x.least(0, 0, 99), 6);
        Check.well(x, "MOST then", x.most(0, 0, 99), 3);
        GivenUp y = Check.with("suitor s;maid m bar 7;thing a of s worth 5;thing b of s worth 2;after a b;");
        Check.well(y, "a THING told ahead of what it is AFTER", y.leastSet(0, 0, 0), 3);
    }

    private static void feigned() {
        GivenUp x = Check.with("suitor s;maid m bar 9;thing a of s worth 4;thing b of s worth 5;thing c of s worth 6;");
        x.feign(0);
        Check.well(x, "FEIGNED ones stay so and are HEARD", x.least(0, 0, 0), 5);
        Check.well(x, "one is left this WEEK", x.most(0, 0, 0), 10);
        Check.well(x, "two are left in all", x.most(0, 0, 1), 15);
    }

    private static void wedded() {
        GivenUp x = Check.with(VALLEY);
        x.bar(1, 0);
        x.wed(2, 1);
        Check.refused(x, "least of one who has WED", x.least(2, 0, 0), 7);
        Check.refused(x, "least of a MAID who has WED", x.least(0, 1, 0), 7);
        Check.refused(x, "leastSet of both", x.leastSet(2, 1, 0), 7);
        Check.refused(x, "fewest of one who has WED", x.fewest(2, 0, 0), 7);
        Check.refused(x, "soonest of one who has WED", x.soonest(2, 0), 7);
        Check.refused(x, "soonest of a MAID who has WED", x.soonest(0, 1), 7);
        Check.refused(x, "most of one who has WED", x.most(2, 0, 0), 7);
        Check.well(x, "most for a MAID who has WED", x.most(0, 1, 0), 13);
        Check.refused(x, "cheapest of one who has WED", x.cheapest(2, 0), 7);
        Check.refused(x, "within of one who has WED", x.within(2, 0), 7);
        Check.well(x, "a MAID who has WED is not within", x.within(0, 9), 1);
        Check.well(x, "nor the cheapest", x.cheapest(0, 9), 0);
        Check.refused(x, "rivals, of whom one has WED", x.rivals(0, 2, 0), 7);
        Check.refused(x, "rivals, of whom the first has WED", x.rivals(2, 0, 0), 7);
        Check.refused(x, "rivals for a MAID who has WED", x.rivals(0, 1, 1), 7);
        Check.well(x, "a village of the others", x.village(9, 0), 1);
        Check.refused(x, "no villager who has WED", x.villager(9, 2), 6);
    }

    private static void most() {
        GivenUp x = Check.with(VALLEY);
        Check.well(x, "MOST in this WEEK", x.most(0, 0, 0), 13);
        Check.well(x, "MOST in two", x.most(0, 0, 1), 24);
        Check.well(x, "MOST in three", x.most(0, 0, 2), 27);
        Check.well(x, "MOST in 99 more", x.most(0, 0, 99), 27);
        Check.well(x, "MOST without THINGS", x.most(2, 0, 99), 0);
        x.give(4);
        x.give(1);
        x.give(0);
        Check.well(x, "nothing is left this WEEK", x.most(0, 0, 0), 12);
    }

    private static void rivals() {
        GivenUp x = Check.with(VALLEY);
        Check.refused(x, "rivals of one and itself", x.rivals(0, 0, 0), 1);
        Check.refused(x, "rivals(3, 0, 0)", x.rivals(3, 0, 0), 1);
        Check.refused(x, "rivals(0, 3, 0)", x.rivals(0, 3, 0), 1);
        Check.refused(x, "rivals(-1, 0, 0)", x.rivals(-1, 0, 0), 1);
        Check.refused(x, "rivals(0, -1, 0)", x.rivals(0, -1, 0), 1);
        Check.refused(x, "rivals(0, 1, 2)", x.rivals(0, 1, 2), 1);
        Check.refused(x, "rivals(0, 1, -1)", x.rivals(0, 1, -1), 1);
        Check.well(x, "alike, of one AGE: the lesser number", x.rivals(1, 0, 1), 0);
        Check.well(x, "one never", x.rivals(2, 1, 1), 1);
        Check.well(x, "the other never", x.rivals(0, 1, 0), 0);
        Check.refused(x, "neither ever", x.rivals(1, 2, 0), 6);
        x.bar(1, 0);
        Check.well(x, "alike: the elder", x.rivals(0, 2, 1), 2);
        StringBuilder slow = new StringBuilder("suitor s;suitor t;maid m bar 4;weekly 1;");
        for (int i = 0; i < 4; i++) {
            slow.append("thing ").append((char) ('a' + i)).append(" of ").append(i < 3 ? "s" : "t").append(" worth 1;");
        }
        GivenUp z = Check.with(slow.toString());
        Check.refused(z, "neither with what they have", z.rivals(0, 1, 0), 6);
        z.bar(0, 3);
        Check.well(z, "one in two WEEKS", z.rivals(1, 0, 0), 0);
        GivenUp y = Check.with("suitor s age 90;suitor t;maid m bar 9;thing a of s worth 4;thing b of s worth 5;"
                + "thing c of t worth 9;weekly 1;");
        Check.well(y, "SOONEST goes ahead of AGE", y.rivals(0, 1, 0), 1);
    }

    private static void cheapestAndWithin() {
        GivenUp x = Check.with(VALLEY);
        Check.well(x, "the cheapest for s", x.cheapest(0, 0), 1);
        Check.well(x, "within for s", x.within(0, 0), 3);
        Check.well(x, "the cheapest for t", x.cheapest(1, 0), 1);
        Check.well(x, "within for t", x.within(1, 99), 2);
        Check.refused(x, "the cheapest for u", x.cheapest(2, 99), 6);
        Check.well(x, "within for u", x.within(2, 99), 0);
        x.bar(0, 6);
        Check.well(x, "alike: the first", x.cheapest(0, 0), 0);
        GivenUp y = Check.with("suitor s;maid m bar 9;maid n bar 5;thing a of s worth 5;thing b of s worth 5;weekly 1;");
        Check.well(y, "within this WEEK", y.within(0, 0), 2);
        Check.well(y, "within two", y.within(0, 1), 3);
    }

    private static void village() {
        GivenUp x = Check.with(VALLEY);
        Check.well(x, "couples", x.village(0, 0), 2);
        Check.well(x, "their LOSS", x.village(0, 1), 14);
        Check.well(x, "s weds m, though n were cheaper", x.villager(0, 0), 0);
        Check.well(x, "t weds n", x.villager(0, 1), 1);
        Check.refused(x, "u weds nobody", x.villager(0, 2), 6);
        GivenUp y = Check.with("maid m bar 0;");
        Check.well(y, "no SUITORS, no couples", y.village(0, 0), 0);
        Check.well(y, "nor LOSS", y.village(0, 1), 0);
        GivenUp z = Check.with("suitor s;maid m bar 5 mother 9;thing a of s worth 5;thing b of s worth 5;weekly 1;maid n bar 10;");
        Check.well(z, "COWS are not minded", z.villager(0, 0), 0);
        Check.well(z, "in two WEEKS the LEAST is the same", z.village(1, 1), 5);
        z.bar(0, 11);
        Check.well(z, "none now", z.village(0, 0), 0);
        Check.well(z, "n in two WEEKS", z.villager(1, 0), 1);
        Check.well(z, "by all", z.village(1, 1), 10);
        z.bar(1, 11);
        Check.well(z, "none any more", z.village(1, 0), 0);
        Check.well(z, "nor LOSS any more", z.village(1, 1), 0);
        Check.refused(z, "nor a MAID", z.villager(1, 0), 6);
    }

    private static void villageTies() {
        GivenUp x = Check.with("suitor a;suitor b;suitor c;maid m bar 5;maid n bar 5;"
                + "thing d of a worth 5;thing e of b worth 5;thing f of c worth 5;");
        Check.well(x, "two couples", x.village(0, 0), 2);
        Check.well(x, "a has the first", x.villager(0, 0), 0);
        Check.well(x, "b has the second", x.villager(0, 1), 1);
        Check.refused(x, "c has none", x.villager(0, 2), 6);
        GivenUp y = Check.with("suitor a;suitor b;suitor c;maid m bar 5;maid n bar 5;"
                + "thing d of a worth 6;thing e of b worth 5;thing f of c worth 5;");
        Check.refused(y, "a would lose more", y.villager(0, 0), 6);
        Check.well(y, "b has the first", y.villager(0, 1), 0);
        Check.well(y, "c has the second", y.villager(0, 2), 1);
        Check.well(y, "the least LOSS", y.village(0, 1), 10);
        y.give(0);
        Check.well(y, "a has given up already: nothing more to lose", y.village(0, 1), 5);
        Check.well(y, "so a has the first", y.villager(0, 0), 0);
        GivenUp z = Check.with("suitor a;suitor b;suitor c;suitor d;maid m bar 1;maid n bar 2;maid o bar 3;maid p bar 4;"
                + "thing e of a worth 4;thing f of b worth 3;thing g of c worth 2;thing h of d worth 1;");
        Check.well(z, "all wed in one way alone", z.village(0, 0), 4);
        for (int suitor = 0; suitor < 4; suitor++) {
            Check.well(z, "that of " + suitor, z.villager(0, suitor), 3 - suitor);
        }
        Check.well(z, "by all they have", z.village(0, 1), 10);
    }
}
