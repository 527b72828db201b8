import java.util.function.Supplier;

/** Promises 37 to 51: plans, and who keeps whom. */
final class Promises37To51Sentences extends Due {
    // s can have m by a and b (12), n by c (6) or d (6); t has n by e, u has nothing.
    private static final String VALLEY = "suitor s age 30;suitor t age 40;suitor u;maid m bar 12;maid n bar 6;thing a of s worth 6;thing b of s worth 6;"
            + "thing c of s worth 6;thing d of s worth 6;thing e of t worth 2;says c to m 1;says d to m 1;says e to n 6;says e to m 3;says a to n 5;says b to n 5;";

    private static GivenUp made() {
        return with(VALLEY);
    }

    /** u has WED n. */
    private static GivenUp wedded() {
        GivenUp x = with(VALLEY);
        x.bar(1, 0);
        x.wed(2, 1);
        return x;
    }

    // ---- 37 to 41

    @Sentence(in = "Promise 37", says = "LEAST: the WORTH")
    static void promise37_least() {
        GivenUp x = made();
        well(x, x.least(0, 0, 0), 12);
        well(x, x.least(0, 1, 0), 6);
        well(x, x.least(1, 1, 0), 2);
        give(x, 0);
        well(x, x.least(0, 0, 0), 6);
        x.bar(0, 0);
        well(x, x.least(2, 0, 0), 0);
        GivenUp most = with("suitor s;maid m bar 198;thing a of s worth 99;thing b of s worth 99;weekly 1;");
        no(most, most.least(0, 0, 0), 6);
        well(most, most.least(0, 0, 1), 198);
        well(most, most.told(8), 0);
    }

    /** 1 ahead of 7, 7 ahead of 6. */
    private interface Plan {
        Object ask(GivenUp x, int suitor, int maid, int weeks);
    }

    private static void inThisOrder(Plan plan, boolean byWeeks) {
        Supplier<GivenUp> wed = Promises37To51Sentences::wedded;
        if (byWeeks) {
            refuses(1, wed, x -> plan.ask(x, 2, 1, 100));
            refuses(1, wed, x -> plan.ask(x, 2, 1, -1));
        }
        refuses(1, wed, x -> plan.ask(x, 2, 2, 0));
        refuses(1, wed, x -> plan.ask(x, 3, 1, 0));
        refuses(7, wed, x -> plan.ask(x, 2, 0, 0));
        refuses(7, wed, x -> plan.ask(x, 2, 1, 0));
        refuses(7, wed, x -> plan.ask(x, 1, 1, 0));
        refuses(6, wed, x -> plan.ask(x, 1, 0, 99));
    }

    @Sentence(in = "Promise 37", says = "(1; 6: it can't be; 7: one has WED; asked as 1, 7, 6).")
    static void promise37_status1And7And6() {
        ranges("least", "S", "M", "0..99");
        inThisOrder(GivenUp::least, true);
    }

    @Sentence(in = "Promise 38", says = "The set of that")
    static void promise38_leastSet() {
        GivenUp x = made();
        well(x, x.leastSet(0, 0, 0), 3);
        well(x, x.leastSet(0, 1, 0), 4);
        well(x, x.leastSet(1, 1, 0), 16);
        x.bar(0, 0);
        well(x, x.leastSet(2, 0, 0), 0);
        GivenUp all = with("suitor s;maid m bar 12;weekly 1;" + things(12, 1));
        well(all, all.leastSet(0, 0, 11), 4095);
        no(all, all.leastSet(0, 0, 10), 6);
    }

    @Sentence(in = "Promise 38", says = "(1; 7; 6).")
    static void promise38_status1And7And6() {
        ranges("leastSet", "S", "M", "0..99");
        inThisOrder(GivenUp::leastSet, true);
    }

    @Sentence(in = "Promise 39", says = "FEWEST: how many")
    static void promise39_fewest() {
        GivenUp x = made();
        well(x, x.fewest(0, 0, 0), 2);
        well(x, x.fewest(0, 1, 0), 1);
        x.bar(1, 22);
        no(x, x.fewest(0, 1, 0), 6);
        well(x, x.fewest(0, 1, 1), 4);
        x.bar(1, 0);
        well(x, x.fewest(2, 1, 99), 0);
    }

    @Sentence(in = "Promise 39", says = "(1; 7; 6).")
    static void promise39_status1And7And6() {
        ranges("fewest", "S", "M", "0..99");
        inThisOrder(GivenUp::fewest, true);
    }

    @Sentence(in = "Promise 40", says = "SOONEST")
    static void promise40_soonest() {
        GivenUp x = made();
        well(x, x.soonest(0, 0), 0);
        x.bar(0, 13);
        well(x, x.soonest(0, 0), 1);
        give(x, 0, 1);
        x.week();
        well(x, x.soonest(0, 0), 0);
        x.bar(0, 14);
        well(x, x.soonest(0, 0), 0);
        give(x, 2);
        x.feign(3);
        well(x, x.soonest(0, 0), 0);
    }

    @Sentence(in = "Promise 40", says = "(1; 7; 6: not in 99).")
    static void promise40_status1And7And6() {
        ranges("soonest", "S", "M");
        inThisOrder((x, suitor, maid, weeks) -> x.soonest(suitor, maid), false);
        GivenUp x = made();
        x.bar(0, 15);
        no(x, x.soonest(0, 0), 6);
    }

    @Sentence(in = "Promise 41", says = "MOST")
    static void promise41_most() {
        GivenUp x = made();
        well(x, x.most(0, 0, 0), 12);
        well(x, x.most(0, 0, 1), 14);
        well(x, x.most(0, 1, 0), 12);
        well(x, x.most(0, 1, 99), 22);
        well(x, x.most(2, 0, 99), 0);
        x.bar(1, 0);
        x.wed(1, 1);
        // For a MAID who has WED there is a MOST as well.
        well(x, x.most(0, 1, 99), 22);
    }

    @Sentence(in = "Promise 41", says = "(1; 7: he has WED).")
    static void promise41_status1And7() {
        ranges("most", "S", "M", "0..99");
        refuses(7, Promises37To51Sentences::wedded, x -> x.most(2, 0, 0));
        refuses(7, Promises37To51Sentences::wedded, x -> x.most(2, 1, 99));
        refuses(1, Promises37To51Sentences::wedded, x -> x.most(2, 0, 100));
    }

    // ---- 42 to 46

    @Sentence(in = "Promise 42", says = "RIVALS: who of two")
    static void promise42_rivals() {
        GivenUp x = made();
        well(x, x.rivals(0, 1, 0), 0);
        well(x, x.rivals(1, 0, 0), 0);
        well(x, x.rivals(0, 1, 1), 1);
        well(x, x.rivals(2, 1, 1), 1);
        x.bar(0, 0);
        well(x, x.rivals(0, 2, 0), 0);
    }

    @Sentence(in = "Promise 42", says = "(1: one and itself, too; 7: one of the three has WED; 6: neither ever).")
    static void promise42_status1And7And6() {
        ranges(Made::some, "rivals", new int[][] {{1, 2}, null, {0, 2}}, 1, 0, 0);
        ranges(Made::some, "rivals", new int[][] {{0, 1}, null, null}, 0, 2, 0);
        ranges(Made::some, "rivals", new int[][] {null, {1, 2}, null}, 0, 1, 0);
        ranges(Made::some, "rivals", new int[][] {null, {0, 1}, null}, 2, 0, 0);
        ranges(Made::most, "rivals", new int[][] {{1, 3}, null, {0, 3}}, 1, 0, 0);
        ranges(Made::most, "rivals", new int[][] {null, {1, 3}, null}, 0, 1, 0);
        for (int suitor = 0; suitor < 3; suitor++) {
            int s = suitor;
            refuses(1, Promises37To51Sentences::made, x -> x.rivals(s, s, 0));
            refuses(1, Promises37To51Sentences::wedded, x -> x.rivals(s, s, 1));
        }
        refuses(7, Promises37To51Sentences::wedded, x -> x.rivals(0, 2, 0));
        refuses(7, Promises37To51Sentences::wedded, x -> x.rivals(2, 0, 0));
        refuses(7, Promises37To51Sentences::wedded, x -> x.rivals(0, 1, 1));
        refuses(6, Promises37To51Sentences::made, x -> x.rivals(1, 2, 0));
        refuses(6, Promises37To51Sentences::made, x -> x.rivals(2, 1, 0));
        // 7 ahead of 6.
        refuses(7, Promises37To51Sentences::wedded, x -> x.rivals(1, 2, 0));
        refuses(1, Promises37To51Sentences::wedded, x -> x.rivals(1, 2, 2));
    }

    @Sentence(in = "Promise 43", says = "The MAID whom a SUITOR can have by the LEAST in w WEEKS,")
    static void promise43_cheapest() {
        GivenUp x = made();
        well(x, x.cheapest(0, 0), 1);
        well(x, x.cheapest(1, 0), 1);
        x.bar(0, 0);
        well(x, x.cheapest(0, 0), 0);
        well(x, x.cheapest(2, 0), 0);
        GivenUp later = with("suitor s;maid m bar 9;maid n bar 6;thing a of s worth 9;thing b of s worth 3;thing c of s worth 3;weekly 1;");
        well(later, later.cheapest(0, 0), 0);
        well(later, later.cheapest(0, 1), 1);
        // One who has WED can't be had.
        GivenUp wed = with("suitor s;suitor t;maid m bar 0;maid n bar 5;thing a of s worth 5;");
        well(wed, wed.cheapest(0, 0), 0);
        wed.wed(1, 0);
        well(wed, wed.cheapest(0, 0), 1);
    }

    @Sentence(in = "Promise 43", says = "of several the first")
    static void promise43_cheapestOfSeveralTheFirst() {
        GivenUp x = with("suitor s;maid m bar 9;maid n bar 5;maid o bar 4;maid p bar 5;thing a of s worth 9;thing b of s worth 5;says b to m 1;");
        well(x, x.cheapest(0, 0), 1);
    }

    @Sentence(in = "Promise 43", says = "(1; 7: he has WED; 6: none).")
    static void promise43_status1And7And6() {
        ranges("cheapest", "S", "0..99");
        refuses(7, Promises37To51Sentences::wedded, x -> x.cheapest(2, 0));
        refuses(1, Promises37To51Sentences::wedded, x -> x.cheapest(2, 100));
        refuses(6, Promises37To51Sentences::made, x -> x.cheapest(2, 99));
        refuses(6, () -> with("suitor s;"), x -> x.cheapest(0, 99));
        refuses(7, () -> {
            GivenUp x = with("suitor s;maid m bar 0;");
            x.wed(0, 0);
            return x;
        }, x -> x.cheapest(0, 0));
    }

    @Sentence(in = "Promise 44", says = "The set of MAIDS that a SUITOR can have in w WEEKS")
    static void promise44_within() {
        GivenUp x = made();
        well(x, x.within(0, 0), 3);
        well(x, x.within(1, 99), 2);
        well(x, x.within(2, 99), 0);
        GivenUp later = with("suitor s;maid m bar 3;maid n bar 1;maid o bar 4;maid p bar 2;thing a of s worth 1;thing b of s worth 1;thing c of s worth 1;weekly 1;");
        well(later, later.within(0, 0), 2);
        well(later, later.within(0, 1), 10);
        well(later, later.within(0, 2), 11);
        well(later, later.within(0, 99), 11);
        GivenUp wed = wedded();
        well(wed, wed.within(0, 0), 1);
        GivenUp none = with("suitor s;");
        well(none, none.within(0, 99), 0);
    }

    @Sentence(in = "Promise 44", says = "(1; 7: he has WED).")
    static void promise44_status1And7() {
        ranges("within", "S", "0..99");
        refuses(7, Promises37To51Sentences::wedded, x -> x.within(2, 0));
        refuses(1, Promises37To51Sentences::wedded, x -> x.within(2, -1));
    }

    @Sentence(in = "Promise 45", says = "VILLAGE in w WEEKS, what 0: how many couples, 1: the LOSS together")
    static void promise45_village() {
        GivenUp x = made();
        well(x, x.village(0, 0), 2);
        well(x, x.village(0, 1), 14);
        x.bar(0, 14);
        well(x, x.village(0, 0), 1);
        well(x, x.village(0, 1), 2);
        well(x, x.village(1, 0), 2);
        well(x, x.village(1, 1), 26);
        GivenUp nobody = new GivenUp();
        well(nobody, nobody.village(0, 0), 0);
        well(nobody, nobody.village(99, 1), 0);
        GivenUp none = with("suitor s;maid m bar 1;");
        well(none, none.village(99, 0), 0);
        well(none, none.village(99, 1), 0);
    }

    @Sentence(in = "Promise 45", says = "(1).")
    static void promise45_status1() {
        ranges("village", "0..99", "0..1");
    }

    @Sentence(in = "Promise 46", says = "The MAID of a SUITOR in that")
    static void promise46_villager() {
        GivenUp x = made();
        well(x, x.villager(0, 0), 0);
        well(x, x.villager(0, 1), 1);
        x.bar(0, 14);
        no(x, x.villager(0, 0), 6);
        well(x, x.villager(1, 0), 0);
        x.bar(0, 999);
        x.bar(1, 999);
        no(x, x.villager(1, 0), 6);
        no(x, x.villager(1, 1), 6);
    }

    @Sentence(in = "Promise 46", says = "(1; 6: none).")
    static void promise46_status1And6() {
        ranges("villager", "0..99", "S");
        refuses(6, Promises37To51Sentences::made, x -> x.villager(99, 2));
        refuses(6, Promises37To51Sentences::wedded, x -> x.villager(99, 2));
        refuses(1, Promises37To51Sentences::made, x -> x.villager(100, 2));
        refuses(1, GivenUp::new, x -> x.villager(0, 0));
    }

    // ---- 47 to 51

    // s is HEARD 5 by m and 1 by n, t 3 by both, u (the eldest) nothing.
    private static final String COUPLES = "suitor s age 30;suitor t age 30;suitor u age 50;maid m bar 0;maid n bar 0;thing a of s worth 5;"
            + "says a to n 1;thing b of t worth 3;likes s m 2;likes s n 7;likes t n 4;likes u m 1;likes u n 1;";

    private static GivenUp couples(long... maids) {
        GivenUp x = with(COUPLES);
        give(x, 0, 1);
        return row(x, 0, maids);
    }

    @Sentence(in = "Promise 47", says = "BOLTS: how many couples")
    static void promise47_bolts() {
        long[][] rows = {{0, 1, -1}, {1, 0, -1}, {-1, -1, -1}, {-1, -1, 0}, {-1, 1, 0}};
        int[] due = {0, 1, 6, 4, 1};
        for (int i = 0; i < rows.length; i++) {
            GivenUp x = couples(rows[i]);
            well(x, x.bolts(0), due[i]);
            x.wed(0, 1);
            well(x, x.bolts(0), due[i]);
        }
        // By a row of each sort, and in each TRAY.
        for (int sort = 0; sort < 4; sort++) {
            GivenUp x = couples();
            x.tray(sort, sort, 3);
            x.write(sort, 0, 1);
            x.write(sort, 2, -1);
            well(x, x.bolts(sort), 1);
        }
        GivenUp nobody = new GivenUp();
        nobody.tray(0, 0, 0);
        well(nobody, nobody.bolts(0), 0);
        GivenUp none = row(with("suitor s;"), 0, -1);
        well(none, none.bolts(0), 0);
    }

    private interface Asked {
        Object ask(GivenUp x, int tray);
    }

    private static void traysStatus(Asked asked) {
        for (int tray : new int[] {-1, 4, 64, 1 << 30, Integer.MIN_VALUE, Integer.MAX_VALUE}) {
            refuses(1, () -> couples(0, 1, -1), x -> asked.ask(x, tray));
        }
        refuses(2, () -> couples(0, 1, -1), x -> asked.ask(x, 1));
        refuses(2, () -> couples(0, 1, -1), x -> asked.ask(x, 3));
        refuses(3, () -> couples(), x -> asked.ask(x, 0));
        refuses(3, () -> couples(0, 1), x -> asked.ask(x, 0));
        // 3 ahead of 5.
        refuses(3, () -> couples(-2, 5), x -> asked.ask(x, 0));
    }

    private static void rowsStatus5(Asked asked) {
        for (int place = 0; place < 3; place++) {
            for (long bad : new long[] {-2, 2, Long.MIN_VALUE, Long.MAX_VALUE, 1L << 32, -1L << 32, (1L << 32) - 1, 256, -255}) {
                long[] maids = {-1, -1, -1};
                maids[place] = bad;
                refuses(5, () -> couples(maids), x -> asked.ask(x, 0));
            }
        }
        refuses(5, () -> couples(1, 0, 1), x -> asked.ask(x, 0));
        refuses(5, () -> couples(0, 0, -1), x -> asked.ask(x, 0));
        refuses(5, () -> row(with("suitor s;"), 0, 0), x -> asked.ask(x, 0));
    }

    @Sentence(in = "Promise 47", says = "(1; 2; 3; 5: below -1, no MAID, one twice; asked in this order).")
    static void promise47_status1And2And3And5() {
        traysStatus(GivenUp::bolts);
        rowsStatus5(GivenUp::bolts);
    }

    @Sentence(in = "Promise 48", says = "The first SUITOR of such a couple (by SUITORS, then MAIDS), what 0; the MAID (1)")
    static void promise48_bolter() {
        long[][] rows = {{1, 0, -1}, {-1, 0, -1}, {0, -1, -1}, {-1, 1, 0}, {-1, -1, -1}};
        int[][] due = {{1, 1}, {0, 0}, {0, 1}, {0, 0}, {0, 0}};
        for (int i = 0; i < rows.length; i++) {
            GivenUp x = couples(rows[i]);
            well(x, x.bolter(0, 0), due[i][0]);
            well(x, x.bolter(0, 1), due[i][1]);
        }
    }

    @Sentence(in = "Promise 48", says = "(1; 2; 3; 5; 6: none).")
    static void promise48_status1And2And3And5And6() {
        for (int what = 0; what < 2; what++) {
            int w = what;
            traysStatus((x, tray) -> x.bolter(tray, w));
            rowsStatus5((x, tray) -> x.bolter(tray, w));
            refuses(6, () -> couples(0, 1, -1), x -> x.bolter(0, w));
            refuses(6, () -> row(new GivenUp(), 0), x -> x.bolter(0, w));
        }
        ranges(() -> couples(1, 0, -1), "bolter", new int[][] {null, {0, 1}}, 0, 0);
        refuses(1, () -> couples(1, 0, -1), x -> x.bolter(1, 2));
        refuses(1, () -> couples(1, 0, -1), x -> x.bolter(0, -1));
        refuses(1, () -> couples(5, 5, 5), x -> x.bolter(0, 2));
    }

    @Sentence(in = "Promise 49", says = "The MAID that keeps a SUITOR, when all have ASKED")
    static void promise49_asked() {
        // s and t ask n, u asks m; n keeps t, s asks m, who keeps him; u asks n, who keeps t.
        GivenUp x = couples();
        well(x, x.asked(0), 0);
        well(x, x.asked(1), 1);
        no(x, x.asked(2), 6);
        x.like(0, 0, 8);
        well(x, x.asked(0), 0);
        x.like(1, 0, 9);
        well(x, x.asked(0), 0);
        well(x, x.asked(1), 1);
    }

    @Sentence(in = "Promise 49", says = "(1; 6: none).")
    static void promise49_status1And6() {
        ranges("asked", "S");
        refuses(6, () -> couples(), x -> x.asked(2));
        refuses(6, () -> with("suitor s;"), x -> x.asked(0));
        refuses(1, GivenUp::new, x -> x.asked(0));
    }

    @Sentence(in = "Promise 50", says = "How many refusals there were in that.")
    static void promise50_refusals() {
        // s by n, u by m, u by n.
        GivenUp x = couples();
        well(x, x.refusals(), 3);
        well(x, x.refusals(), 3);
        x.asked(0);
        well(x, x.refusals(), 3);
        GivenUp nobody = new GivenUp();
        well(nobody, nobody.refusals(), 0);
        GivenUp four = with("suitor s;suitor t;suitor u;suitor v;maid m bar 0;");
        well(four, four.refusals(), 3);
        GivenUp most = with("suitor s;suitor t;suitor u;suitor v;maid m bar 0;maid n bar 0;maid o bar 0;maid p bar 0;");
        // Three by m, two by n, one by o.
        well(most, most.refusals(), 6);
        GivenUp none = with("suitor s;suitor t;maid m bar 0;maid n bar 0;likes t n 1;");
        well(none, none.refusals(), 0);
        GivenUp noMaids = with("suitor s;suitor t;");
        well(noMaids, noMaids.refusals(), 0);
    }

    @Sentence(in = "Promise 51", says = "What ASKED gives comes to a TRAY, SUITOR by SUITOR (-1: none): how many are kept")
    static void promise51_keep() {
        for (int sort = 0; sort < 4; sort++) {
            GivenUp x = couples();
            x.tray(sort, sort, 4);
            x.write(sort, 2, 77);
            x.write(sort, 3, 77);
            well(x, x.keep(sort), 2);
            well(x, x.read(sort, 0), 0);
            well(x, x.read(sort, 1), 1);
            well(x, x.read(sort, 2), -1);
            // What stands behind the SUITORS stays.
            well(x, x.read(sort, 3), 77);
            well(x, x.bolts(sort), 0);
        }
        GivenUp nobody = new GivenUp();
        nobody.tray(0, 0, 1);
        nobody.write(0, 0, 7);
        well(nobody, nobody.keep(0), 0);
        well(nobody, nobody.read(0, 0), 7);
        nobody.tray(0, 0, 0);
        well(nobody, nobody.keep(0), 0);
        GivenUp four = row(with("suitor s;suitor t;suitor u;suitor v;maid m bar 0;maid n bar 0;maid o bar 0;maid p bar 0;"), 0, 9, 9, 9, 9);
        well(four, four.keep(0), 4);
        for (int i = 0; i < 4; i++) {
            well(four, four.read(0, i), i);
        }
    }

    @Sentence(in = "Promise 51", says = "(1; 2; 3).")
    static void promise51_status1And2And3() {
        traysStatus(GivenUp::keep);
        // What stands there need not be couples.
        GivenUp x = couples(5, 5, -9);
        well(x, x.keep(0), 2);
    }
}
