/** Promises 11, 12 and 59 to 61: the text of YEARS, LIVED, the mean. */
public final class LivingTest {
    private static final String VALLEY = "suitor s cows 3;suitor t;maid m bar 9 mother 1;maid n bar 0;"
            + "thing a of s worth 4;thing b of s worth 5;thing c of s worth 6;thing d of t worth 7;after c a;fair 2;";

    public static void main(String[] args) {
        years();
        faults();
        tooManyAndTooDeep();
        steps();
        whens();
        loops();
        threeHundred();
        draws();
        lived();
        mean();
        Check.end("LivingTest");
    }

    private static void years() {
        GivenUp x = Check.with(VALLEY);
        Check.refused(x, "live without YEARS", x.live(0), 6);
        x.feed(0x20202020, 0x20202020, 0x20202020, 0x20202020, 0x20202020);
        Check.refused(x, "years(-1)", x.years(-1), 1);
        Check.refused(x, "years(21) of 20", x.years(21), 1);
        for (int i = 0; i < 15; i++) {
            x.feed(0x20202020, 0x20202020, 0x20202020, 0x20202020, 0x20202020);
        }
        Check.refused(x, "years(301)", x.years(301), 1);
        Check.well(x, "the tape is as it was: years(300)", x.years(300), 0);
        Check.refused(x, "the tape is empty then", x.years(1), 1);
        Check.well(x, "YEARS of no STEPS", x.live(0), 0);
        Check.well(x, "how many STEPS", Check.years(x, "give a;loop 2;when bare s;week;end;end;stop;"), 5);
        Check.refused(x, "YEARS with a FAULT", Check.years(x, "give x;"), 9);
        Check.well(x, "the old ones stay", x.live(0), 5);
        Check.valley(x, "suitor s;");
        Check.refused(x, "a new valley has none", x.live(0), 6);
    }

    private static void fault(String years, int kind, int place) {
        GivenUp x = Check.with(VALLEY, "week;");
        Check.refused(x, "years " + years, Check.years(x, years), 9);
        Check.due("fault(0) of " + years, x.fault(0), kind);
        Check.due("fault(1) of " + years, x.fault(1), place);
        Check.due("the old years behind " + years, x.live(0), 1);
        Check.due("what they did", x.told(6), 1);
    }

    private static void fine(String years, int steps) {
        GivenUp x = Check.with(VALLEY);
        Check.well(x, "years " + years, Check.years(x, years), steps);
        Check.due("fault(0) of " + years, x.fault(0), 0);
        Check.due("fault(1) of " + years, x.fault(1), GivenUp.NONE);
    }

    private static void faults() {
        fine("", 0);
        fine("give a;feign b;any s;back c;week;wed s with m;stop;", 7);
        fine("when heard s to m<0;end;when heard s to m > 9999;end;when heard s to m=7;end;", 3);
        fine("when yes s to m;when bare t;end;end;loop 1;end;loop 99;end;", 4);
        fault("give", 2, 4);
        fault("give;", 2, 4);
        fault("give a", 2, 6);
        fault("give A;", 1, 5);
        fault("give 12345;", 1, 5);
        fault("give s;", 3, 5);
        fault("feign m;", 3, 6);
        fault("back x;", 3, 5);
        fault("give week;", 2, 5);
        fault("any a;", 3, 4);
        fault("any m;", 3, 4);
        fault("wed m with s;", 3, 4);
        fault("wed s with t;", 3, 11);
        fault("wed s to m;", 2, 6);
        fault("week s;", 2, 5);
        fault("suitor s;", 2, 0);
        fault("s;", 2, 0);
        fault("end;", 2, 0);
        fault("week;end;", 2, 5);
        fault("loop 2;end;end;", 2, 11);
        fault("loop 2;week;", 2, 12);
        fault("loop 2;week;end", 2, 15);
        fault("loop 2;week; ", 2, 13);
        fault("loop 0;end;", 4, 5);
        fault("loop 100;end;", 4, 5);
        fault("loop;", 2, 4);
        fault("when;", 2, 4);
        fault("when s;", 2, 5);
        fault("when give a;", 2, 5);
        fault("when heard a to m < 1;", 3, 11);
        fault("when heard s to t < 1;", 3, 16);
        fault("when heard s to m 1;", 2, 18);
        fault("when heard s to m < ;", 2, 20);
        fault("when heard s to m < 10000;", 1, 20);
        fault("when heard s with m < 1;", 2, 13);
        fault("when yes s m;", 2, 11);
        fault("when bare m;", 3, 10);
        fault("when bare s", 2, 11);
        fault("loop 1;end", 2, 10);
        fault("loop 1;end week;", 2, 11);
        fault("week week;", 2, 5);
    }

    private static void tooManyAndTooDeep() {
        StringBuilder thirty = new StringBuilder();
        for (int i = 0; i < 30; i++) {
            thirty.append("week;");
        }
        fine(thirty.toString(), 30);
        fault(thirty + "stop;", 6, 150);
        fault(thirty + "end;", 2, 150);
        fault(thirty + "x;", 2, 150);
        StringBuilder loops = new StringBuilder();
        for (int i = 0; i < 15; i++) {
            loops.append("loop 1;week;end;");
        }
        fine(loops.toString(), 30);
        fault(loops + "loop 1;", 6, 240);
        fine("loop 1;when bare s;loop 2;week;end;end;end;", 4);
        fault("loop 1;when bare s;loop 2;loop 3;", 7, 26);
        fault("loop 1;when bare s;loop 2;when", 7, 26);
        fine("loop 1;loop 1;loop 1;end;loop 1;end;end;end;", 4);
        // The 31st STEP is that first, even where it stands too deep.
        StringBuilder deep = new StringBuilder();
        for (int i = 0; i < 27; i++) {
            deep.append("week;");
        }
        deep.append("loop 1;loop 1;loop 1;");
        fault(deep + "loop 1;", 6, 156);
    }

    private static void steps() {
        GivenUp x = Check.with(VALLEY, "give c;give a;give c;week;feign b;back b;back a;back c;back a;week;back c;wed s with m;wed t with n;");
        Check.well(x, "live", x.live(9999), 13);
        // Missed: c ahead of a; in WEEK 1, which is no FAIR: b (FEIGNED, too), a, c, a.
        Check.well(x, "missed", x.lived(0), 5);
        Check.well(x, "WEEKS", x.lived(1), 2);
        Check.well(x, "GIVEN", x.lived(2), 2);
        Check.well(x, "weddings", x.lived(3), 2);
        Check.well(x, "nothing was left", x.lived(4), 0);
        Check.well(x, "it stays: a is GIVEN", x.told(8), 1);
        Check.well(x, "it stays: b is FEIGNED", x.told(9), 2);
        Check.well(x, "it stays: WEEK 2", x.told(6), 2);
        Check.well(x, "it stays: a COW for c, one for the MOTHER", x.suitor(0, 1), 1);
        Check.well(x, "it stays: s has WED m by what he FEIGNS", x.suitor(0, 5), 0);
        Check.well(x, "it stays: t has WED n", x.suitor(1, 5), 1);
        GivenUp y = Check.with(VALLEY, "loop 99;week;week;week;end;");
        for (int i = 0; i < 3; i++) {
            y.live(0);
        }
        for (int i = 0; i < 96; i++) {
            y.week();
        }
        Check.well(y, "three lives and 96 WEEKS", y.told(6), 987);
        Check.well(y, "live to the last WEEK", y.live(0), 298);
        Check.well(y, "WEEKS till 999", y.lived(1), 12);
        Check.well(y, "missed behind", y.lived(0), 285);
    }

    private static void whens() {
        GivenUp x = Check.with(VALLEY, "when heard s to m < 4;give a;end;when heard s to m < 4;give b;end;"
                + "when heard s to m = 4;week;end;when heard s to m > 4;week;end;when heard s to m > 3;week;end;"
                + "when yes s to m;week;end;when bare t;week;end;when yes t to n;give d;end;when bare t;week;end;");
        // Nine whens, of which five are true.
        Check.well(x, "live", x.live(0), 14);
        Check.well(x, "WEEKS", x.lived(1), 3);
        Check.well(x, "GIVEN", x.lived(2), 2);
        Check.well(x, "a when that is not so is not MISSED", x.lived(0), 0);
    }

    private static void loops() {
        GivenUp x = Check.with(VALLEY, "loop 3;week;loop 2;week;end;end;loop 99;end;week;");
        // 1 + 3 * (1 + 1 + 2) + 1 + 1.
        Check.well(x, "live", x.live(0), 15);
        Check.well(x, "WEEKS", x.told(6), 10);
        Check.well(x, "a second life", x.live(0), 15);
        Check.well(x, "WEEKS behind that", x.told(6), 20);
        GivenUp y = Check.with(VALLEY, "loop 9;week;stop;week;end;week;");
        Check.well(y, "stop", y.live(0), 3);
        Check.well(y, "stop leaves nothing to be done", y.lived(4), 0);
        Check.well(y, "one WEEK", y.lived(1), 1);
    }

    private static void threeHundred() {
        GivenUp x = Check.with(VALLEY, "loop 23;loop 11;week;end;end;");
        // 1 + 23 * 12 = 277.
        Check.well(x, "fewer than 300", x.live(0), 277);
        Check.well(x, "none is left", x.lived(4), 0);
        Check.years(x, "loop 13;loop 22;week;end;end;");
        Check.well(x, "just 300", x.live(0), 300);
        Check.well(x, "none is left behind 300", x.lived(4), 0);
        Check.years(x, "loop 13;loop 22;week;end;end;stop;");
        Check.well(x, "a stop behind 300", x.live(0), 300);
        Check.well(x, "it is left", x.lived(4), 1);
        Check.years(x, "loop 13;loop 22;week;end;end;loop 1;end;");
        Check.well(x, "a loop behind 300", x.live(0), 300);
        Check.well(x, "that is left", x.lived(4), 1);
        Check.years(x, "loop 12;loop 22;week;end;end;loop 22;week;end;stop;");
        Check.well(x, "a stop as the 301st", x.live(0), 300);
        Check.well(x, "left, too", x.lived(4), 1);
        Check.years(x, "loop 99;loop 99;loop 99;end;end;end;");
        Check.well(x, "loops of nothing", x.live(0), 300);
        Check.well(x, "some of them are left", x.lived(4), 1);
        Check.years(x, "loop 4;loop 73;end;loop 73;week;end;end;stop;");
        // 1 + 4 * (1 + 1 + 73) = 301 come, but for the last.
        Check.well(x, "a round that is cut short", x.live(0), 300);
        Check.well(x, "and so left", x.lived(4), 1);
    }

    private static void draws() {
        // s 0 becomes 11129, by 8: 1391, by 3: 2. Then 11129 * 2927 + 11129 rests 14320, by 8: 1790, by 2: 0.
        GivenUp x = Check.with("suitor s;thing a of s worth 1;thing b of s worth 2;thing c of s worth 4;", "any s;any s;any s;");
        Check.well(x, "live", x.live(0), 3);
        Check.well(x, "c, then a", x.told(8), 5);
        Check.well(x, "any without such is MISSED", x.lived(0), 1);
        Check.well(x, "GIVEN by any", x.lived(2), 2);
        GivenUp z = Check.with("suitor s;thing a of s worth 1;", "any s;");
        z.live(0);
        Check.well(z, "any of one alone", z.lived(2), 1);
        Check.well(z, "is not MISSED", z.lived(0), 0);
        // Seed 5: 25764, 3220, by 2: 0; the THING by a draw is one of those that he may GIVE, a is GIVEN already.
        GivenUp y = Check.with("suitor s;suitor t;thing a of s worth 1;thing b of s worth 2;thing c of s worth 4;weekly 9;",
                "give a;any t;any s;");
        Check.well(y, "live with another seed", y.live(5), 3);
        Check.well(y, "any of t: without a draw", y.told(8), 3);
        Check.well(y, "and MISSED", y.lived(0), 1);
    }

    private static void lived() {
        GivenUp x = Check.with(VALLEY);
        Check.refused(x, "lived ahead of any", x.lived(0), 6);
        Check.refused(x, "lived(-1)", x.lived(-1), 1);
        Check.refused(x, "lived(5)", x.lived(5), 1);
        Check.years(x, "give a;week;week;");
        Check.refused(x, "live(-1)", x.live(-1), 1);
        Check.refused(x, "live(10000)", x.live(10000), 1);
        Check.refused(x, "those are no lives", x.lived(0), 6);
        x.mark();
        Check.well(x, "live", x.live(0), 3);
        x.mean(0, 5, 5);
        x.live(-1);
        Check.well(x, "the mean is no life", x.lived(2), 1);
        x.undo();
        Check.well(x, "lived stays behind undo", x.lived(1), 2);
        Check.valley(x, "");
        x.live(0);
        Check.well(x, "lived stays behind a new valley", x.lived(1), 2);
        Check.years(x, "");
        x.live(0);
        Check.well(x, "a life of no STEPS", x.lived(1), 0);
    }

    private static void mean() {
        GivenUp x = Check.with("suitor s;suitor t;thing a of s worth 1;thing b of s worth 2;thing c of s worth 4;thing d of t worth 9;");
        Check.refused(x, "mean(2, 0, 1)", x.mean(2, 0, 1), 1);
        Check.refused(x, "mean(-1, 0, 1)", x.mean(-1, 0, 1), 1);
        Check.refused(x, "mean(0, -1, 1)", x.mean(0, -1, 1), 1);
        Check.refused(x, "mean(0, 10000, 1)", x.mean(0, 10000, 1), 1);
        Check.refused(x, "mean(0, 0, 0)", x.mean(0, 0, 0), 1);
        Check.refused(x, "mean(0, 0, 21)", x.mean(0, 0, 21), 1);
        Check.refused(x, "mean(0, 9981, 20)", x.mean(0, 9981, 20), 1);
        Check.refused(x, "mean without YEARS", x.mean(0, 9980, 20), 6);
        Check.years(x, "any s;week;give d;");
        Check.well(x, "mean to the last seed", x.mean(0, 9980, 20));
        long sum = 0;
        for (int seed = 7; seed < 13; seed++) {
            x.mark();
            x.live(seed);
            sum += x.suitor(0, 4);
            x.undo();
        }
        Check.well(x, "mean of six", x.mean(0, 7, 6));
        Check.due("mean of six, over all", x.top() * 6, sum * x.bottom());
        Check.well(x, "all stays: nothing is GIVEN", x.told(8), 0);
        Check.well(x, "all stays: WEEK 0", x.told(6), 0);
        Check.well(x, "all stays: none this WEEK", x.suitor(0, 2), 0);
        // 11129 of seed 0 draws c, 14056 of seed 1 (1757, by 3: 2) draws c, 16983 of seed 2 (2122, by 3: 1) draws b.
        Check.well(x, "mean of one", x.mean(0, 0, 1));
        Check.fraction(x, "mean of one", 4, 1);
        Check.well(x, "mean of three", x.mean(0, 0, 3));
        Check.fraction(x, "mean of 4, 4 and 2", 10, 3);
        Check.well(x, "mean of another", x.mean(1, 0, 20));
        Check.fraction(x, "mean of another", 9, 1);
        Check.years(x, "");
        Check.well(x, "mean of no LOSS", x.mean(0, 0, 20));
        Check.fraction(x, "mean of no LOSS", 0, 1);
    }
}
