import java.util.List;

/** Promises 52 to 63: what was, YEARS, MARKS. */
final class Promises52To63Sentences extends Due {
    // b and c AFTER a, d AFTER both; e and f in a ring, g AFTER f; h free; i is of t.
    private static final String VALLEY = "suitor s cows 9;suitor t;maid m bar 5;maid n bar 0;weekly 9;thing a of s worth 1;thing b of s worth 2;"
            + "thing c of s worth 3;thing d of s worth 4;thing e of s worth 1;thing f of s worth 1;thing g of s worth 1;thing h of s worth 5;"
            + "thing i of t worth 6;after b a;after c a;after d b;after d c;after e f;after f e;after g f;fair 1;";

    private static GivenUp made() {
        return with(VALLEY);
    }

    private static String twelve(String more) {
        return "suitor s;weekly 9;" + things(12, 1) + more;
    }

    // ---- 52 to 58: what was

    @Sentence(in = "Promise 52", says = "ORDERS of a SUITOR")
    static void promise52_orders() {
        GivenUp x = made();
        well(x, x.orders(0), 1);
        give(x, 0, 1, 2);
        well(x, x.orders(0), 2);
        x.feign(7);
        well(x, x.orders(0), 2);
        x.found(7);
        give(x, 3, 7);
        well(x, x.orders(0), 10);
        well(x, x.orders(1), 1);
        x.feign(8);
        well(x, x.orders(1), 1);
        x.week();
        // A THING that is got back was not GIVEN.
        x.back(7);
        well(x, x.orders(0), 2);
        GivenUp most = with(twelve(""));
        for (int i = 0; i < 12; i++) {
            if (i == 9) {
                most.week();
            }
            give(most, i);
        }
        well(most, most.orders(0), 479001600L);
    }

    @Sentence(in = "Promise 52", says = "(1).")
    static void promise52_status1() {
        ranges("orders", "S");
    }

    @Sentence(in = "Promise 53", says = "FIRSTS (what 0), LASTS (1): a set")
    static void promise53_ends() {
        GivenUp x = made();
        well(x, x.ends(0, 0), 0);
        well(x, x.ends(0, 1), 0);
        give(x, 0, 1, 2, 7);
        well(x, x.ends(0, 0), 1 + 128);
        well(x, x.ends(0, 1), 2 + 4 + 128);
        give(x, 3, 8);
        well(x, x.ends(0, 0), 1 + 128);
        well(x, x.ends(0, 1), 8 + 128);
        well(x, x.ends(1, 0), 256);
        well(x, x.ends(1, 1), 256);
    }

    @Sentence(in = "Promise 53", says = ": a set (1).")
    static void promise53_status1() {
        ranges("ends", "S", "0..1");
    }

    @Sentence(in = "Promise 54", says = "The set of all that must be GIVEN ahead of a THING, at once or by others")
    static void promise54_needs() {
        GivenUp x = made();
        int[] due = {0, 1, 1, 7};
        for (int thing = 0; thing < due.length; thing++) {
            well(x, x.needs(thing), due[thing]);
        }
        well(x, x.needs(6), 48);
        well(x, x.needs(7), 0);
        give(x, 0, 1);
        well(x, x.needs(3), 7);
        // A chain of twelve, told from its end and from its beginning.
        String up = eachAfterTheNext().replaceAll("after (\\w+) (\\w+);", "after $2 $1;");
        GivenUp chain = with(twelve(up));
        GivenUp other = with(twelve(eachAfterTheNext()));
        for (int i = 0; i < 12; i++) {
            well(chain, chain.needs(i), (1 << i) - 1);
            well(other, other.needs(i), 4095 & ~((1 << i + 1) - 1));
        }
    }

    @Sentence(in = "Promise 54", says = "(itself, too, if it is AFTER itself by others)")
    static void promise54_needsItselfToo() {
        GivenUp x = made();
        well(x, x.needs(4), 48);
        well(x, x.needs(5), 48);
        GivenUp ring = with("suitor s;thing a of s worth 1;thing b of s worth 1;thing c of s worth 1;thing d of s worth 1;after a b;after b c;after c a;after a d;");
        well(ring, ring.needs(0), 15);
        well(ring, ring.needs(1), 15);
        well(ring, ring.needs(2), 15);
        well(ring, ring.needs(3), 0);
    }

    @Sentence(in = "Promise 54", says = "(1).")
    static void promise54_status1() {
        ranges("needs", "T");
    }

    @Sentence(in = "Promise 55", says = "The set of a SUITOR's THINGS that NEVER can be GIVEN")
    static void promise55_never() {
        GivenUp x = made();
        well(x, x.never(0), 16 + 32 + 64);
        well(x, x.never(1), 0);
        GivenUp two = with("suitor s;suitor t;thing a of t worth 1;thing b of s worth 1;thing c of t worth 1;thing d of s worth 1;after a c;after c a;after b d;");
        well(two, two.never(0), 0);
        well(two, two.never(1), 5);
        // AFTER such a THING by others, and not what such a THING is AFTER.
        GivenUp far = with("suitor s;thing a of s worth 1;thing b of s worth 1;thing c of s worth 1;thing d of s worth 1;thing e of s worth 1;"
                + "after a b;after b a;after c b;after d c;after a e;");
        well(far, far.never(0), 15);
    }

    @Sentence(in = "Promise 55", says = "(1).")
    static void promise55_status1() {
        ranges("never", "S");
    }

    @Sentence(in = "Promise 56", says = "How many orders there are to GIVE all THINGS of a SUITOR that can ever be GIVEN, from nothing on")
    static void promise56_ways() {
        GivenUp x = made();
        // a, b and c, d: two orders, h in one of five places; e, f, g NEVER.
        well(x, x.ways(0), 10);
        well(x, x.ways(1), 1);
        give(x, 0, 7);
        x.feign(1);
        well(x, x.ways(0), 10);
        x.wed(0, 1);
        well(x, x.ways(0), 10);
        GivenUp most = with(twelve(""));
        well(most, most.ways(0), 479001600L);
        GivenUp half = with(twelve("after ax bx;"));
        well(half, half.ways(0), 479001600L / 2);
        GivenUp none = with("suitor s;suitor t;thing a of t worth 1;thing b of t worth 1;after a b;after b a;");
        well(none, none.ways(0), 1);
        well(none, none.ways(1), 1);
    }

    @Sentence(in = "Promise 56", says = "(1).")
    static void promise56_status1() {
        ranges("ways", "S");
    }

    @Sentence(in = "Promise 57", says = "How many FEIGNED THINGS a MAID HEARD of a SUITOR (what 0), what they SAY to her together (1)")
    static void promise57_lies() {
        GivenUp x = with(VALLEY + "says h to n 0;");
        well(x, x.lies(0, 0, 0), 0);
        well(x, x.lies(0, 0, 1), 0);
        give(x, 0);
        x.feign(1);
        x.feign(7);
        x.feign(8);
        for (int maid = 0; maid < 2; maid++) {
            well(x, x.lies(0, maid, 0), 2);
            well(x, x.lies(0, maid, 1), maid == 0 ? 7 : 2);
            well(x, x.lies(1, maid, 0), 1);
            well(x, x.lies(1, maid, 1), 6);
        }
        x.found(7);
        well(x, x.lies(0, 0, 0), 1);
        well(x, x.lies(0, 0, 1), 2);
    }

    @Sentence(in = "Promise 57", says = "(1) (1).")
    static void promise57_status1() {
        ranges("lies", "S", "M", "0..1");
    }

    @Sentence(in = "Promise 58", says = "The set of SUITORS (1 for SUITOR 0 ..) who have a YES by what they FEIGN alone: without it there were none")
    static void promise58_cheats() {
        GivenUp x = with("suitor s;suitor t;suitor u;suitor v;maid m bar 5;maid n bar 0;thing a of s worth 5;thing b of t worth 5;thing c of u worth 4;"
                + "thing d of v worth 4;thing e of v worth 1;thing f of t worth 1;");
        well(x, x.cheats(0), 0);
        x.feign(0);
        well(x, x.cheats(0), 1);
        give(x, 1);
        x.feign(5);
        // t has a YES without it, u has none by it.
        x.feign(2);
        well(x, x.cheats(0), 1);
        give(x, 3);
        x.feign(4);
        well(x, x.cheats(0), 9);
        well(x, x.cheats(1), 0);
        x.bar(0, 6);
        well(x, x.cheats(0), 2);
        x.bar(0, 5);
        x.wed(0, 1);
        well(x, x.cheats(0), 8);
        well(x, x.cheats(1), 0);
        x.wed(1, 0);
        well(x, x.cheats(0), 0);
    }

    @Sentence(in = "Promise 58", says = "(1).")
    static void promise58_status1() {
        ranges("cheats", "M");
    }

    // ---- 59 to 61: YEARS

    @Sentence(in = "Promise 59", says = "LIVED: how many STEPS were come to (MISSED ones, too)")
    static void promise59_howManyStepsWereComeTo() {
        GivenUp x = with(VALLEY, "give b;give a;loop 3;week;back i;end;when bare s;week;week;end;stop;week;");
        // 2, a loop, 3 times 2, a when, a stop.
        well(x, x.live(0), 11);
        well(x, x.lived(0), 4);
        well(x, x.told(6), 3);
        GivenUp most = with(VALLEY, "loop 99;loop 99;give e;end;end;");
        well(most, most.live(9999), 300);
    }

    @Sentence(in = "Promise 59", says = "(1; 6: no YEARS).")
    static void promise59_status1And6() {
        ranges("live", "0..9999");
        refuses(6, Promises52To63Sentences::made, x -> x.live(0));
        refuses(6, Promises52To63Sentences::made, x -> x.live(9999));
        refuses(1, Promises52To63Sentences::made, x -> x.live(10000));
        refuses(6, () -> {
            GivenUp x = with(VALLEY, "week;");
            x.live(0);
            tell(x, VALLEY);
            return x;
        }, x -> x.live(0));
        // No YEARS at the MARK.
        refuses(6, () -> {
            GivenUp x = made();
            x.mark();
            tellYears(x, "week;");
            x.live(0);
            x.undo();
            return x;
        }, x -> x.live(0));
    }

    @Sentence(in = "Promise 60", says = "Of live() latest with STATUS 0 (whatever came behind it),")
    static void promise60_ofTheLatestWithStatus0() {
        GivenUp x = with(VALLEY, "week;week;give a;");
        x.live(0);
        x.live(10000);
        x.live(-1);
        well(x, x.lived(1), 2);
        x.mean(0, 0, 20);
        x.week();
        x.mark();
        tellYears(x, "give h;");
        well(x, x.lived(1), 2);
        well(x, x.lived(2), 1);
        x.undo();
        tell(x, "");
        x.live(0);
        well(x, x.lived(1), 2);
        well(x, x.lived(2), 1);
        tellYears(x, "week;week;week;");
        x.mark();
        x.live(0);
        x.undo();
        well(x, x.lived(1), 3);
        well(x, x.lived(2), 0);
    }

    @Sentence(in = "Promise 60", says = "what 0: how many were MISSED, 1: WEEKS, 2: THINGS GIVEN, 3: weddings,")
    static void promise60_missedWeeksThingsGivenWeddings() {
        GivenUp x = with(VALLEY, "give a;any t;feign h;week;back a;give a;wed t with m;wed s with n;wed s with m;give b;week;week;back h;");
        well(x, x.live(0), 13);
        int[] due = {3, 3, 3, 2, 0};
        for (int what = 0; what < 5; what++) {
            well(x, x.lived(what), due[what]);
        }
        // What stood so ahead is not counted.
        tellYears(x, "week;");
        x.live(0);
        int[] then = {0, 1, 0, 0, 0};
        for (int what = 0; what < 5; what++) {
            well(x, x.lived(what), then[what]);
        }
    }

    private static void left(int want, int steps, String years) {
        GivenUp x = with(VALLEY, years);
        well(x, x.live(0), steps);
        well(x, x.lived(4), want);
    }

    @Sentence(in = "Promise 60", says = "4: 1 if a STEP was left to be done (by the 300 alone, not by stop), else 0")
    static void promise60_ifAStepWasLeft() {
        left(0, 1, "week;");
        left(0, 1, "stop;week;week;");
        left(0, 2, "week;stop;");
        left(0, 300, "loop 13;loop 22;week;end;end;");
        left(1, 300, "loop 13;loop 22;week;end;end;week;");
        left(1, 300, "loop 13;loop 22;week;end;end;stop;");
        left(1, 300, "loop 14;loop 22;week;end;end;");
        left(0, 300, "loop 99;week;end;loop 99;week;end;loop 98;week;end;stop;week;");
        left(1, 300, "loop 99;week;end;loop 99;week;end;loop 99;week;end;stop;");
        left(1, 300, "loop 99;loop 99;loop 99;end;end;end;");
        // The 300th is the last of a when that ends there, or of one that is not so.
        left(0, 300, "loop 99;week;week;end;loop 98;week;end;when yes s to n;week;end;");
        left(0, 300, "loop 99;week;week;end;loop 99;week;end;when bare s;week;end;");
        left(1, 300, "loop 99;week;week;end;loop 99;week;end;when yes s to n;week;end;");
    }

    @Sentence(in = "Promise 60", says = "(1; 6: there was none).")
    static void promise60_status1And6() {
        ranges("lived", "0..4");
        refuses(6, GivenUp::new, x -> x.lived(0));
        refuses(1, GivenUp::new, x -> x.lived(5));
        refuses(6, () -> {
            GivenUp x = with(VALLEY, "week;");
            x.live(10000);
            x.mean(0, 0, 1);
            return x;
        }, x -> x.lived(4));
    }

    private static long lossBy(int seed, String years) {
        GivenUp x = with(VALLEY, years);
        x.live(seed);
        return x.suitor(0, 4);
    }

    @Sentence(in = "Promise 61", says = "The FRACTION is the mean of a SUITOR's LOSS behind the YEARS, by so many seeds (1 to 20) from one on")
    static void promise61_mean() {
        String years = "any s;any s;week;any s;";
        for (int many : new int[] {1, 2, 3, 7, 19, 20}) {
            for (int seed : new int[] {0, 1, 5, 9980}) {
                long sum = 0;
                for (int i = 0; i < many; i++) {
                    sum += lossBy(seed + i, years);
                }
                GivenUp x = with(VALLEY, years);
                well(x, x.mean(0, seed, many));
                same(x.top() * many, sum * x.bottom());
                for (long d = 2; d <= x.bottom(); d++) {
                    same(x.top() % d == 0 && x.bottom() % d == 0 ? d : 1, 1);
                }
            }
        }
        // From how all is now, and of the SUITOR that is told.
        GivenUp x = with(VALLEY, "give i;");
        give(x, 0);
        well(x, x.mean(0, 0, 20));
        fraction(x, 1, 1);
        well(x, x.mean(1, 0, 20));
        fraction(x, 6, 1);
    }

    @Sentence(in = "Promise 61", says = "(1: the last above 9,999, too; 6: no YEARS);")
    static void promise61_status1And6() {
        ranges("mean", "S", "0..9999", "1..20");
        int[][] out = {{9999, 2}, {9981, 20}, {9998, 3}, {Integer.MAX_VALUE, 1}, {Integer.MAX_VALUE, 20}, {9980, 21},
            {0, Integer.MAX_VALUE}, {9999, Integer.MAX_VALUE}, {Integer.MAX_VALUE, Integer.MAX_VALUE}, {-1, 20}, {Integer.MIN_VALUE, 20},
            {Integer.MIN_VALUE, Integer.MIN_VALUE}, {9999, 0}, {9999, Integer.MIN_VALUE}};
        for (int[] o : out) {
            refuses(1, Made::some, x -> x.mean(0, o[0], o[1]));
            refuses(1, Promises52To63Sentences::made, x -> x.mean(0, o[0], o[1]));
        }
        for (int[] in : new int[][] {{9999, 1}, {9998, 2}, {9980, 20}, {0, 20}}) {
            GivenUp x = with(VALLEY, "week;");
            well(x, x.mean(0, in[0], in[1]));
            refuses(6, Promises52To63Sentences::made, y -> y.mean(0, in[0], in[1]));
        }
    }

    @Sentence(in = "Promise 61", says = "all stays as it is.")
    static void promise61_allStaysAsItIs() {
        GivenUp x = Made.some();
        well(x, x.mean(0, 3, 20));
        List<Long> with = Everything.of(x);
        List<Long> without = Everything.of(Made.some());
        // But for the FRACTION, of which the first two tell.
        same(with.subList(2, with.size()).equals(without.subList(2, without.size())) ? 1 : 0, 1);
        GivenUp once = with(VALLEY, "give a;feign h;week;back a;wed s with n;");
        GivenUp twice = with(VALLEY, "give a;feign h;week;back a;wed s with n;");
        once.mean(0, 0, 1);
        twice.mean(0, 0, 20);
        fraction(twice, 0, 1);
        same(Everything.of(once).equals(Everything.of(twice)) ? 1 : 0, 1);
    }

    // ---- 62, 63: MARKS

    @Sentence(in = "Promise 62", says = "A MARK more: how many there are")
    static void promise62_aMarkMore() {
        GivenUp x = made();
        for (int i = 1; i <= 3; i++) {
            well(x, x.mark(), i);
        }
        x.undo();
        x.undo();
        well(x, x.mark(), 2);
        // A VALLEY that is taken leaves the MARKS.
        tell(x, "");
        well(x, x.mark(), 3);
    }

    @Sentence(in = "Promise 62", says = "(4).")
    static void promise62_status4() {
        refuses(4, Made::threeMarks, GivenUp::mark);
        GivenUp x = Made.threeMarks();
        no(x, x.mark(), 4);
        well(x, x.undo(), 2);
        well(x, x.mark(), 3);
        no(x, x.mark(), 4);
    }

    @Sentence(in = "Promise 63", says = "All is taken back to the latest MARK: how many there are left")
    static void promise63_allIsTakenBack() {
        GivenUp x = with(VALLEY, "give a;");
        give(x, 0);
        x.mark();
        GivenUp same = with(VALLEY, "give a;");
        give(same, 0);
        x.feign(7);
        x.wed(0, 1);
        x.week();
        x.mark();
        tell(x, "suitor z;maid y bar 3;weekly 1;");
        tellYears(x, "week;");
        x.mark();
        x.week();
        well(x, x.undo(), 2);
        well(x, x.told(4), 1);
        well(x, x.told(6), 0);
        well(x, x.undo(), 1);
        well(x, x.told(9), 128);
        well(x, x.told(6), 1);
        well(x, x.undo(), 0);
        same(Everything.of(x).equals(Everything.of(same)) ? 1 : 0, 1);
    }

    @Sentence(in = "Promise 63", says = "All is taken back to the latest MARK:")
    static void promise63_whatIsNoPartOfTheValleyStays() {
        GivenUp x = with(VALLEY, "week;give a;");
        x.mark();
        row(x, 0, 5, 6);
        x.live(0);
        x.share(0, 0);
        x.feed(0x20202020, 0x20202020, 0x20202020, 0x20202020, 0x20202020);
        well(x, x.undo(), 0);
        well(x, x.read(0, 1), 6);
        well(x, x.lived(1), 1);
        fraction(x, 1, 18);
        same(x.feed(0, 0, 0, 0, 0), 40);
    }

    @Sentence(in = "Promise 63", says = "(6).")
    static void promise63_status6() {
        refuses(6, GivenUp::new, GivenUp::undo);
        refuses(6, () -> {
            GivenUp x = with(VALLEY, "week;");
            x.mark();
            give(x, 0);
            x.undo();
            x.week();
            return x;
        }, GivenUp::undo);
    }
}
