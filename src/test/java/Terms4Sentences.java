import java.util.ArrayList;
import java.util.List;

/** Terms 4: the TEXT of YEARS and its FAULTS, what is LIVED by draws, MARKS, FRACTIONS. */
final class Terms4Sentences extends Due {
    private static final String VALLEY = "suitor s cows 9;suitor t;maid m bar 9 mother 1;maid n bar 0;thing a of s worth 4;"
            + "thing b of s worth 5;thing c of s worth 6;thing d of t worth 7;after c a;fair 2;";

    private static void bad(int kind, int place, String years) {
        yearsFault(kind, place, VALLEY, years);
    }

    private static void good(int steps, String years) {
        fineYears(VALLEY, steps, years);
    }

    // ---- the TEXT

    @Sentence(in = "Terms 4", says = "YEARS are a TEXT of at most 300 bytes, of such TOKENS")
    static void terms4_aTextOfAtMost300Bytes() {
        good(1, "week" + " ".repeat(295) + ";");
        GivenUp x = with(VALLEY, "week;week;");
        Check.feed(x, "week" + " ".repeat(296) + ";");
        no(x, x.years(301), 1);
        well(x, x.live(0), 2);
        no(x, x.years(300), 9);
        same(x.fault(0), 2);
        same(x.fault(1), 300);
        good(2, "\nweek\n;week;  ");
        good(1, "loop 09;end;");
        bad(1, 0, "Week;");
        bad(1, 5, "loop 12345;end;");
        bad(2, 0, "weekweek;");
        bad(2, 5, "give abcdefghi;");
    }

    @Sentence(in = "Terms 4", says = "(none at first).")
    static void terms4_noYearsAtFirst() {
        GivenUp x = new GivenUp();
        no(x, x.live(0), 6);
        GivenUp y = with(VALLEY);
        no(y, y.live(0), 6);
        no(y, y.mean(0, 0, 1), 6);
    }

    /** A STEP is fine; cut, with a WORD of the VALLEY too many, or without one of its TOKENS it is none. */
    private static void form(int steps, String step) {
        good(steps, step);
        good(steps + 1, "week;" + step);
        form("", step, "age", Terms4Sentences::bad);
        form("week; ", step, "age", Terms4Sentences::bad);
    }

    @Sentence(in = "Terms 4", says = "YEARS: {STEP}.")
    static void terms4_yearsAreStepsAnyNumberOfTimes() {
        good(1, "stop;");
        good(2, "stop;stop;");
        good(30, "week;".repeat(30));
        for (String first : new String[] {"a", "7", ";", "=", "suitor", "heard", "yes", "bare", "with", "to", "fair", "weekly"}) {
            bad(2, 0, first);
            bad(2, 5, "week;" + first);
        }
    }

    @Sentence(in = "Terms 4", says = "STEP: give NAME ;")
    static void terms4_giveStep() {
        form(1, "give a ;");
        GivenUp x = with(VALLEY, "give b;give d;");
        well(x, x.live(0), 2);
        well(x, x.told(8), 2 + 8);
        well(x, x.lived(0), 0);
    }

    @Sentence(in = "Terms 4", says = "or feign NAME ;")
    static void terms4_feignStep() {
        form(1, "feign a ;");
        GivenUp x = with(VALLEY, "feign b;feign d;");
        well(x, x.live(0), 2);
        well(x, x.told(9), 2 + 8);
        well(x, x.told(8), 0);
        well(x, x.lived(2), 0);
    }

    @Sentence(in = "Terms 4", says = "or any NAME ;")
    static void terms4_anyStep() {
        form(1, "any s ;");
        GivenUp x = with(VALLEY, "any t;");
        well(x, x.live(0), 1);
        well(x, x.told(8), 8);
    }

    @Sentence(in = "Terms 4", says = "or back NAME ;")
    static void terms4_backStep() {
        form(1, "back a ;");
        GivenUp x = with(VALLEY, "give b;week;week;back b;");
        well(x, x.live(0), 4);
        well(x, x.told(8), 0);
        well(x, x.suitor(0, 1), 8);
        well(x, x.lived(0), 0);
    }

    @Sentence(in = "Terms 4", says = "or week ;")
    static void terms4_weekStep() {
        form(1, "week ;");
        GivenUp x = with(VALLEY, "week;week;week;");
        well(x, x.live(0), 3);
        well(x, x.told(6), 3);
    }

    @Sentence(in = "Terms 4", says = "or wed NAME with NAME ;")
    static void terms4_wedStep() {
        form(1, "wed s with m ;");
        bad(2, 3, "wed;");
        bad(2, 5, "wed s;");
        GivenUp x = with(VALLEY, "wed s with m;wed t with n;");
        well(x, x.live(0), 2);
        well(x, x.suitor(1, 5), 1);
        well(x, x.told(7), 1);
        well(x, x.lived(0), 1);
    }

    @Sentence(in = "Terms 4", says = "or when TEST ; {STEP} end ;")
    static void terms4_whenStep() {
        form(1, "when bare s ; end ;");
        form(2, "when bare s ; week ; end ;");
        bad(2, 5, "when ;end;");
        good(4, "when bare s;week;stop;week;end;");
        GivenUp x = with(VALLEY, "when bare t;week;week;end;give d;when bare t;week;end;");
        well(x, x.live(0), 4);
        well(x, x.told(6), 1);
    }

    @Sentence(in = "Terms 4", says = "or loop NUMBER ; {STEP} end ;")
    static void terms4_loopStep() {
        form(1, "loop 5 ; end ;");
        form(2, "loop 5 ; week ; end ;");
        good(4, "loop 5;week;stop;week;end;");
        GivenUp x = with(VALLEY, "loop 5;week;end;week;");
        well(x, x.live(0), 7);
        well(x, x.told(6), 6);
    }

    @Sentence(in = "Terms 4", says = "or stop ;")
    static void terms4_stopStep() {
        form(1, "stop ;");
        GivenUp x = with(VALLEY, "week;stop;week;");
        well(x, x.live(0), 2);
        well(x, x.told(6), 1);
        well(x, x.lived(0), 0);
        GivenUp deep = with(VALLEY, "loop 9;loop 9;week;when yes t to n;stop;end;end;end;week;");
        well(deep, deep.live(0), 5);
        well(deep, deep.told(6), 1);
    }

    /** Whether a TEST holds, by whether a WEEK behind it goes by. */
    private static void holds(int want, GivenUp x, String test) {
        int week = x.told(6);
        tellYears(x, "when " + test + ";week;end;");
        well(x, x.live(0), 1 + want);
        well(x, x.told(6), week + want);
        well(x, x.lived(0), 0);
    }

    @Sentence(in = "Terms 4", says = "TEST: heard NAME to NAME COMPARES NUMBER,")
    static void terms4_heardTest() {
        form(1, "when heard s to m < 5 ; end ;");
        GivenUp x = with(VALLEY);
        give(x, 0);
        holds(1, x, "heard s to m = 4");
        holds(0, x, "heard t to m = 4");
        holds(0, x, "heard s to n > 4");
        bad(2, 10, "when heard;end;");
        bad(2, 12, "when heard s;end;");
        bad(2, 17, "when heard s to m;end;");
        bad(2, 18, "when heard s to m 5;end;");
        bad(2, 18, "when heard s to m ; end;");
        bad(2, 19, "when heard s to m <> 5;end;");
    }

    @Sentence(in = "Terms 4", says = "or yes NAME to NAME,")
    static void terms4_yesTest() {
        form(1, "when yes s to m ; end ;");
        bad(2, 8, "when yes;end;");
        bad(2, 10, "when yes s;end;");
        GivenUp x = with(VALLEY);
        holds(0, x, "yes s to m");
        holds(1, x, "yes s to n");
        give(x, 0);
        x.feign(1);
        holds(1, x, "yes s to m");
        holds(0, x, "yes t to m");
        x.wed(1, 1);
        holds(0, x, "yes s to n");
    }

    @Sentence(in = "Terms 4", says = "or bare NAME.")
    static void terms4_bareTest() {
        form(1, "when bare s ; end ;");
        GivenUp x = with(VALLEY);
        holds(0, x, "bare t");
        x.feign(3);
        holds(0, x, "bare t");
        x.found(3);
        x.week();
        give(x, 3);
        holds(1, x, "bare t");
        holds(0, x, "bare s");
        bad(2, 12, "when bare s to m;end;");
    }

    @Sentence(in = "Terms 4", says = "COMPARES: < or > or =")
    static void terms4_compares() {
        GivenUp x = with(VALLEY);
        give(x, 0);
        for (int number = 3; number <= 5; number++) {
            holds(4 < number ? 1 : 0, x, "heard s to m < " + number);
            holds(4 > number ? 1 : 0, x, "heard s to m > " + number);
            holds(4 == number ? 1 : 0, x, "heard s to m = " + number);
        }
        bad(2, 18, "when heard s to m ; 5;end;");
        bad(1, 18, "when heard s to m ! 5;end;");
    }

    // ---- FAULTS

    @Sentence(in = "Terms 4", says = "FAULTS: 1, 2 as above")
    static void terms4_faults1And2AsAbove() {
        for (String sign : new String[] {"!", "A", "\t", "\u0000", "\u00ff", "-", "12345"}) {
            bad(1, 0, sign);
            bad(1, 5, "week;" + sign);
            bad(1, 5, "give " + sign);
            bad(1, 6, "give a" + sign);
            bad(1, 5, "loop " + sign);
        }
        bad(2, 4, "give");
        bad(2, 6, "give a");
        bad(2, 5, "give abcdefghi;");
        bad(2, 4, "any abcdefghi;");
        bad(2, 11, "wed s with abcdefghi;");
        bad(2, 10, "when bare abcdefghi;end;");
        bad(2, 5, "give week;");
        // The first along the text.
        bad(3, 5, "give x;!");
        bad(1, 0, "! give x;");
    }

    @Sentence(in = "Terms 4", says = "(an end without a beginning;")
    static void terms4_fault2AnEndWithoutABeginning() {
        bad(2, 0, "end;");
        bad(2, 5, "week;end;");
        bad(2, 12, "loop 5;end; end;");
        bad(2, 18, "when bare s; end; end;");
        // What another text left open is no beginning.
        GivenUp x = with(VALLEY);
        no(x, Check.years(x, "loop 5;loop 5;loop 5;"), 9);
        no(x, Check.years(x, "end;"), 9);
        same(x.fault(0), 2);
        same(x.fault(1), 0);
        well(x, Check.years(x, "loop 5;loop 5;loop 5;end;end;end;"), 3);
    }

    @Sentence(in = "Terms 4", says = "the text's end ahead of an end: 2).")
    static void terms4_fault2TheTextsEndAheadOfAnEnd() {
        bad(2, 7, "loop 5;");
        bad(2, 9, "loop 5;  ");
        bad(2, 12, "when bare s;");
        bad(2, 18, "loop 5;loop 5;end;");
        bad(2, 12, "loop 5;week;");
        bad(2, 10, "loop 5;end");
        bad(2, 11, "loop 5;end week;end;");
    }

    @Sentence(in = "Terms 4", says = "3 a NAME that is no such one (a THING behind give, feign, back; a SUITOR, then a MAID).")
    static void terms4_fault3ANameThatIsNoSuchOne() {
        for (String name : new String[] {"x", "s", "m", "aa"}) {
            bad(3, 5, "give " + name + ";");
            bad(3, 6, "feign " + name + ";");
            bad(3, 5, "back " + name + ";");
        }
        for (String name : new String[] {"x", "a", "m", "ss"}) {
            bad(3, 4, "any " + name + ";");
            bad(3, 4, "wed " + name + " with m;");
            bad(3, 11, "when heard " + name + " to m < 5;end;");
            bad(3, 9, "when yes " + name + " to m;end;");
            bad(3, 10, "when bare " + name + ";end;");
        }
        for (String name : new String[] {"x", "a", "s", "mm"}) {
            bad(3, 11, "wed s with " + name + ";");
            bad(3, 16, "when heard s to " + name + " < 5;end;");
            bad(3, 14, "when yes s to " + name + ";end;");
        }
        GivenUp nobody = new GivenUp();
        no(nobody, Check.years(nobody, "any s;"), 9);
        same(nobody.fault(0), 3);
    }

    @Sentence(in = "Terms 4", says = "4 a NUMBER that can't be.")
    static void terms4_fault4ANumberThatCantBe() {
        bad(4, 5, "loop 0;end;");
        bad(4, 5, "loop 0000;end;");
        bad(4, 5, "loop 100;end;");
        bad(4, 5, "loop 9999;end;");
        bad(4, 5, "loop 0100");
        good(1, "loop 1;end;");
        good(1, "loop 99;end;");
        good(1, "loop 0099;end;");
    }

    @Sentence(in = "Terms 4", says = "6 a 31st STEP (at its WORD; end is none).")
    static void terms4_fault6A31stStep() {
        String thirty = "week;".repeat(30);
        good(30, thirty);
        for (String step : new String[] {"week;", "stop;", "give a;", "give x;", "any", "loop 5;end;", "when", "wed 7"}) {
            bad(6, 150, thirty + step);
        }
        bad(2, 150, thirty + "end;");
        // With ends between them there are still thirty.
        good(30, "loop 5;end;".repeat(10) + "week;".repeat(20));
        good(30, "loop 5;loop 5;loop 5;end;end;end;" + "week;".repeat(27));
        good(27, "loop 5;end;".repeat(27));
        String opened = "loop 1;loop 1;" + "week;".repeat(28);
        bad(6, opened.length(), opened + "week;end;end;");
        good(30, opened + "end;end;");
    }

    @Sentence(in = "Terms 4", says = "7 a when, loop within three others (at its WORD).")
    static void terms4_fault7WithinThreeOthers() {
        String[] open = {"loop 5;", "when bare s;"};
        for (int kinds = 0; kinds < 8; kinds++) {
            String three = open[kinds & 1] + open[kinds >> 1 & 1] + open[kinds >> 2];
            good(3, three + "end;end;end;");
            bad(7, three.length(), three + "loop 5;end;end;end;end;");
            bad(7, three.length(), three + "when bare s;end;end;end;end;");
            bad(7, three.length(), three + "loop");
            good(4, three + "end;loop 5;end;end;end;");
            good(6, three + "end;end;end;" + three + "end;end;end;");
        }
        // Of one TOKEN the least kind: 6, not 7.
        String full = "loop 5;loop 5;loop 5;" + "week;".repeat(27);
        bad(6, full.length(), full + "loop 5;");
        // A WORD that can't stand there: 2, not 7.
        bad(2, 28, "loop 5;loop 5;loop 5;week   loop");
    }

    // ---- what is done

    /** The document's draws. */
    private static final class Draws {
        private long s;

        Draws(int seed) {
            s = seed;
        }

        int by(int n) {
            s = (s * 2927 + 11129) % 65536;
            return (int) (s / 8 % n);
        }
    }

    private static final String TEN = "suitor s;suitor t;weekly 9;thing a of s worth 1;thing b of t worth 1;thing c of s worth 1;thing d of s worth 1;"
            + "thing e of s worth 1;thing f of t worth 1;thing g of s worth 1;thing h of s worth 1;thing i of s worth 1;thing j of s worth 1;";
    private static final int[] HIS = {0, 2, 3, 4, 6, 7, 8, 9};

    /** What s has GIVEN behind so many any s. */
    private static int drawn(int seed, int many) {
        Draws draws = new Draws(seed);
        List<Integer> left = new ArrayList<>();
        for (int thing : HIS) {
            left.add(thing);
        }
        int set = 0;
        for (int i = 0; i < many; i++) {
            set |= 1 << left.remove(draws.by(left.size()));
        }
        return set;
    }

    @Sentence(in = "Terms 4", says = "any: a SUITOR GIVES one of what he may GIVE now, by a draw by how many they are, by numbers.")
    static void terms4_anyByADraw() {
        for (int seed : new int[] {0, 1, 2, 3, 77, 1234, 9998, 9999}) {
            for (int many = 1; many <= 8; many++) {
                GivenUp x = with(TEN, "any s;".repeat(many));
                well(x, x.live(seed), many);
                well(x, x.told(8), drawn(seed, many));
                well(x, x.lived(2), many);
            }
        }
        // What may be GIVEN now: not what is FEIGNED, nor what is AFTER something.
        GivenUp x = with("suitor s;weekly 9;thing a of s worth 1;thing b of s worth 1;thing c of s worth 1;after a c;", "feign b;any s;any s;any s;");
        well(x, x.live(5), 4);
        well(x, x.told(8), 5);
        well(x, x.lived(0), 1);
    }

    @Sentence(in = "Terms 4", says = "Each STEP that can't be done is MISSED")
    static void terms4_aStepThatCantBeDoneIsMissed() {
        String[] steps = {"give c;", "feign c;", "any t;", "back b;", "wed s with m;", "give d;"};
        for (String step : steps) {
            GivenUp x = with(VALLEY, step + "week;" + step);
            if (step.contains("any") || step.contains("d;")) {
                give(x, 3);
            }
            well(x, x.live(0), 3);
            well(x, x.lived(0), 2);
            well(x, x.lived(1), 1);
            well(x, x.lived(2) + x.lived(3), 0);
            well(x, x.told(9), 0);
        }
        GivenUp none = with(VALLEY, "give a;week;stop;");
        none.live(0);
        well(none, none.lived(0), 0);
        GivenUp when = with(VALLEY, "when bare s;week;end;loop 1;end;");
        when.live(0);
        well(when, when.lived(0), 0);
    }

    @Sentence(in = "Terms 4", says = "(any without such: without a draw;")
    static void terms4_anyWithoutSuchIsWithoutADraw() {
        for (int seed : new int[] {0, 1, 2, 3, 9999}) {
            GivenUp x = with(TEN, "give b;give f;any t;any s;any t;any s;any t;any s;");
            well(x, x.live(seed), 8);
            well(x, x.told(8), drawn(seed, 3) | 2 | 32);
            well(x, x.lived(0), 3);
            well(x, x.lived(2), 5);
        }
    }

    @Sentence(in = "Terms 4", says = "a week behind 999).")
    static void terms4_aWeekBehind999IsMissed() {
        GivenUp x = toWeek(with(VALLEY), 998);
        tellYears(x, "week;week;week;");
        well(x, x.live(0), 3);
        well(x, x.told(6), 999);
        well(x, x.lived(0), 2);
        well(x, x.lived(1), 1);
        give(x, 0);
        x.live(0);
        well(x, x.lived(1), 0);
        well(x, x.suitor(0, 2), 1);
    }

    @Sentence(in = "Terms 4", says = "when heard: 0 to 9,999.")
    static void terms4_whenHeard0To9999() {
        GivenUp x = with(VALLEY);
        holds(1, x, "heard s to m = 0");
        holds(0, x, "heard s to m < 0");
        holds(0, x, "heard s to m > 0");
        holds(1, x, "heard s to m < 9999");
        holds(0, x, "heard s to m > 9999");
        holds(0, x, "heard s to m = 9999");
        bad(1, 20, "when heard s to m < 10000;end;");
    }

    @Sentence(in = "Terms 4", says = "loop n (1 to 99): as often.")
    static void terms4_loop1To99AsOften() {
        for (int n : new int[] {1, 2, 98, 99}) {
            GivenUp x = with(VALLEY, "loop " + n + ";week;end;");
            well(x, x.live(0), 1 + n);
            well(x, x.told(6), n);
            // And once more as often.
            well(x, x.live(0), 1 + n);
            well(x, x.told(6), 2 * n);
        }
        GivenUp nested = with(VALLEY, "loop 3;loop 4;loop 5;week;end;end;end;");
        well(nested, nested.live(0), 1 + 3 + 12 + 60);
        well(nested, nested.told(6), 60);
        bad(4, 5, "loop 0;week;end;");
        bad(4, 5, "loop 100;week;end;");
    }

    @Sentence(in = "Terms 4", says = "At most 300 STEPS")
    static void terms4_atMost300Steps() {
        GivenUp x = with(VALLEY, "loop 13;loop 22;week;end;end;");
        well(x, x.live(0), 300);
        well(x, x.told(6), 286);
        well(x, x.lived(4), 0);
        GivenUp more = with(VALLEY, "loop 13;loop 22;week;end;end;give a;");
        well(more, more.live(0), 300);
        well(more, more.told(8), 0);
        well(more, more.lived(4), 1);
        GivenUp fewer = with(VALLEY, "loop 99;week;week;end;loop 99;week;end;give a;");
        well(fewer, fewer.live(0), 300);
        well(fewer, fewer.told(8), 1);
        well(fewer, fewer.lived(4), 0);
        GivenUp last = with(VALLEY, "loop 99;week;week;end;loop 98;week;end;week;give a;week;");
        well(last, last.live(0), 300);
        well(last, last.told(8), 1);
        well(last, last.lived(4), 1);
        GivenUp in = with(VALLEY, "loop 99;week;week;end;loop 98;week;end;give a;give b;give d;");
        well(in, in.live(0), 300);
        well(in, in.told(8), 3);
        well(in, in.lived(4), 1);
        GivenUp missed = with(VALLEY, "loop 99;loop 99;give c;end;end;");
        well(missed, missed.live(0), 300);
        well(missed, missed.lived(4), 1);
        GivenUp empty = with(VALLEY, "loop 99;loop 99;loop 99;end;end;end;week;");
        well(empty, empty.live(0), 300);
        well(empty, empty.told(6), 0);
    }

    @Sentence(in = "Terms 4", says = "(when, loop count as one each time they are come to from ahead; end does not).")
    static void terms4_whatCountsAsAStep() {
        GivenUp x = with(VALLEY, "loop 4;end;");
        well(x, x.live(0), 1);
        GivenUp inner = with(VALLEY, "loop 4;loop 9;end;end;");
        well(inner, inner.live(0), 5);
        GivenUp when = with(VALLEY, "loop 4;when bare s;week;week;end;when yes t to n;end;end;");
        well(when, when.live(0), 9);
        GivenUp ends = with(VALLEY, "when yes t to n;when yes t to n;when yes t to n;end;end;end;");
        well(ends, ends.live(0), 3);
    }

    @Sentence(in = "Terms 4", says = "LIVED by a seed (0 to 9,999),")
    static void terms4_livedByASeed0To9999() {
        ranges(() -> with(TEN, "any s;"), "live", new int[][] {{0, 9999}}, 0);
        for (int seed : new int[] {0, 9999}) {
            GivenUp x = with(TEN, "any s;any s;");
            x.live(seed);
            well(x, x.told(8), drawn(seed, 2));
        }
    }

    @Sentence(in = "Terms 4", says = "from how all is now:")
    static void terms4_livedFromHowAllIsNow() {
        GivenUp x = with(VALLEY, "give c;wed t with n;week;");
        give(x, 0);
        x.week();
        x.bar(1, 1);
        well(x, x.live(0), 3);
        well(x, x.told(8), 5);
        well(x, x.told(7), 0);
        well(x, x.told(6), 2);
    }

    @Sentence(in = "Terms 4", says = "what it comes to stays (mean() alone takes it back).")
    static void terms4_whatItComesToStays() {
        GivenUp x = with(VALLEY, "give a;feign d;week;wed t with n;");
        well(x, x.mean(0, 0, 20));
        well(x, x.told(8), 0);
        well(x, x.told(6), 0);
        well(x, x.live(0), 4);
        well(x, x.told(8), 1);
        well(x, x.told(9), 8);
        well(x, x.told(6), 1);
        well(x, x.told(7), 1);
        well(x, x.mean(0, 0, 20));
        well(x, x.told(6), 1);
        well(x, x.live(0), 4);
        well(x, x.told(6), 2);
    }

    @Sentence(in = "Terms 4", says = "Draws: s, at first the seed, becomes what is left of s times 2,927 and 11,129 by 65,536;")
    static void terms4_draws() {
        for (int seed = 0; seed < 10000; seed += 1111) {
            for (int many = 1; many < HIS.length; many++) {
                GivenUp x = with(TEN, "any s;".repeat(many));
                x.live(seed);
                well(x, x.told(8), drawn(seed, many));
            }
        }
        // 9999 times 2,927 and 11,129 is 29,278,202, of which 49,146 is left by 65,536.
        same((9999L * 2927 + 11129) % 65536, 49146);
    }

    @Sentence(in = "Terms 4", says = "the draw by n is the rest of s by 8, rounded down, by n.")
    static void terms4_theDrawByN() {
        // 11,129 of seed 0, by 8: 1,391; 14,056 of seed 1, by 8: 1,757; 16,983 of seed 2, by 8: 2,122.
        int[] by8 = {1391, 1757, 2122};
        for (int n = 1; n <= 8; n++) {
            String text = "suitor s;" + things(n, 1);
            for (int seed = 0; seed < by8.length; seed++) {
                GivenUp x = with(text, "any s;");
                x.live(seed);
                well(x, x.told(8), 1 << by8[seed] % n);
            }
        }
    }

    // ---- MARKS, FRACTIONS

    @Sentence(in = "Terms 4", says = "MARKS, at most 3:")
    static void terms4_atMost3Marks() {
        GivenUp x = new GivenUp();
        for (int i = 1; i <= 3; i++) {
            well(x, x.mark(), i);
        }
        no(x, x.mark(), 4);
        well(x, x.undo(), 2);
        well(x, x.mark(), 3);
        no(x, x.mark(), 4);
        for (int i = 2; i >= 0; i--) {
            well(x, x.undo(), i);
        }
        no(x, x.undo(), 6);
    }

    @Sentence(in = "Terms 4", says = "the VALLEY with all that became of it, the YEARS are kept as they are;")
    static void terms4_theValleyAndTheYearsAreKept() {
        GivenUp x = Made.most();
        x.mark();
        x.give(1);
        x.give(6);
        x.feign(5);
        x.found(2);
        x.week();
        x.back(3);
        x.bar(0, 0);
        x.wed(0, 0);
        x.like(0, 0, 99);
        x.like(3, 3, 99);
        // What comes in its place is alike in nothing.
        tell(x, "suitor z;suitor y cows 1;maid x bar 1 rises 1 mother 1;thing w of y worth 1;thing v of y worth 1;after w v;says w to x 2;likes y x 1;");
        tellYears(x, "give v;stop;");
        well(x, x.undo(), 1);
        well(x, Check.years(x, "give i;any d;wed c with h;when heard a to g < 5;end;back t;"), 5);
        tellYears(x, "any a;any d;week;");
        GivenUp unmarked = Made.most();
        same(Everything.of(x).equals(Everything.of(unmarked)) ? 1 : 0, 1);
    }

    @Sentence(in = "Terms 4", says = "the YEARS are kept as they are;")
    static void terms4_theYearsAreKept() {
        GivenUp x = with(VALLEY, "give a;loop 2;when heard s to m > 3;week;end;end;wed t with n;");
        x.mark();
        tellYears(x, "stop;give b;loop 9;when bare t;stop;end;end;feign d;");
        well(x, x.undo(), 0);
        well(x, x.live(0), 7);
        well(x, x.told(6), 2);
        well(x, x.told(8), 1);
        well(x, x.told(7), 1);
        GivenUp none = with(VALLEY);
        none.mark();
        tellYears(none, "week;");
        none.undo();
        no(none, none.live(0), 6);
        GivenUp gone = with(VALLEY, "week;");
        gone.mark();
        tell(gone, VALLEY);
        no(gone, gone.live(0), 6);
        gone.undo();
        well(gone, gone.live(0), 1);
    }

    @Sentence(in = "Terms 4", says = "all is taken back to the latest MARK,")
    static void terms4_allIsTakenBackToTheLatestMark() {
        GivenUp x = with(VALLEY);
        x.mark();
        give(x, 0);
        x.mark();
        give(x, 1);
        x.week();
        x.mark();
        well(x, x.undo(), 2);
        well(x, x.told(8), 3);
        well(x, x.told(6), 1);
        x.week();
        well(x, x.undo(), 1);
        well(x, x.told(8), 1);
        well(x, x.told(6), 0);
        well(x, x.undo(), 0);
        well(x, x.told(8), 0);
    }

    @Sentence(in = "Terms 4", says = "which is gone then.")
    static void terms4_theMarkIsGoneThen() {
        GivenUp x = with(VALLEY);
        x.mark();
        x.week();
        well(x, x.undo(), 0);
        x.week();
        x.week();
        no(x, x.undo(), 6);
        well(x, x.told(6), 2);
    }

    @Sentence(in = "Terms 4", says = "FRACTIONS are told by top() and bottom() without a common divisor,")
    static void terms4_fractionsWithoutACommonDivisor() {
        int[][] shares = {{6, 6, 1, 2}, {4, 8, 1, 3}, {8, 4, 2, 3}, {5, 7, 5, 12}, {99, 99, 1, 2}, {15, 6, 5, 7}, {1, 0, 1, 1}};
        for (int[] share : shares) {
            GivenUp x = with("suitor s;maid m bar 0;thing a of s worth " + share[0] + ";thing b of s worth " + share[1] + ";");
            give(x, 0);
            well(x, x.share(0, 0));
            fraction(x, share[2], share[3]);
        }
    }

    @Sentence(in = "Terms 4", says = "the bottom above 0; 0 is 0 by 1.")
    static void terms4_0Is0By1() {
        GivenUp x = new GivenUp();
        fraction(x, 0, 1);
        GivenUp y = with("suitor s;suitor t;maid m bar 0;thing a of s worth 50;thing b of t worth 50;thing c of s worth 9;", "week;");
        y.share(0, 0);
        fraction(y, 0, 1);
        give(y, 0);
        y.share(0, 0);
        fraction(y, 50, 59);
        y.share(1, 0);
        fraction(y, 0, 1);
        y.share(0, 0);
        y.mean(1, 0, 20);
        fraction(y, 0, 1);
        GivenUp z = with("suitor s;maid m bar 0;thing a of s worth 50;", "week;");
        z.mean(0, 0, 20);
        fraction(z, 0, 1);
        GivenUp refused = with("suitor s;maid m bar 0;");
        no(refused, refused.share(0, 0), 6);
        fraction(refused, 0, 1);
    }
}
