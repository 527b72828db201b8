/** Promises 1 to 18: a new object, STATUS, FRACTIONS, TRAYS, texts and what was told. */
final class Promises01To18Sentences extends Due {
    private static final String VALLEY = "suitor s age 30 cows 9;suitor t;maid m bar 10 rises 3 mother 2;maid n bar 0;"
            + "thing a of s worth 4;thing b of s worth 5;thing c of s worth 6;thing d of t worth 7;says c to n 0;says c to n 9;"
            + "after b a;after c b;likes s m 1;likes s m 3;likes t n 99;weekly 3;fair 5;";

    // ---- 1: a new object

    @Sentence(in = "Promise 1", says = "A VALLEY of nobody,")
    static void promise01_aValleyOfNobody() {
        GivenUp x = new GivenUp();
        for (int what : new int[] {0, 1, 2, 3, 7, 8, 9}) {
            well(x, x.told(what), 0);
        }
        no(x, x.suitor(0, 0), 1);
        no(x, x.maid(0, 0), 1);
        no(x, x.thing(0, 0), 1);
        well(x, x.village(99, 0), 0);
        well(x, x.refusals(), 0);
    }

    @Sentence(in = "Promise 1", says = "WEEKLY 2, FAIR 4;")
    static void promise01_weekly2Fair4() {
        GivenUp x = new GivenUp();
        well(x, x.told(4), 2);
        well(x, x.told(5), 4);
        well(x, x.toFair(), 4);
    }

    @Sentence(in = "Promise 1", says = "no YEARS, MARKS;")
    static void promise01_noYearsNoMarks() {
        GivenUp x = new GivenUp();
        no(x, x.live(0), 6);
        no(x, x.lived(0), 6);
        no(x, x.undo(), 6);
        well(x, x.mark(), 1);
    }

    @Sentence(in = "Promise 1", says = "WEEK 0;")
    static void promise01_week0() {
        GivenUp x = new GivenUp();
        well(x, x.told(6), 0);
        well(x, x.week(), 1);
    }

    @Sentence(in = "Promise 1", says = "TRAYS are MISSING;")
    static void promise01_traysAreMissing() {
        GivenUp x = new GivenUp();
        for (int tray = 0; tray < 4; tray++) {
            no(x, x.read(tray, 0), 2);
        }
    }

    @Sentence(in = "Promise 1", says = "an empty tape;")
    static void promise01_anEmptyTape() {
        GivenUp x = new GivenUp();
        no(x, x.valley(1), 1);
        no(x, x.years(1), 1);
        same(x.feed(0, 0, 0, 0, 0), 20);
    }

    @Sentence(in = "Promise 1", says = "the FRACTION 0 by 1;")
    static void promise01_theFraction0By1() {
        fraction(new GivenUp(), 0, 1);
    }

    @Sentence(in = "Promise 1", says = "STATUS 0.")
    static void promise01_status0() {
        GivenUp x = new GivenUp();
        same(x.status(), 0);
        same(new GivenUp().fault(0), GivenUp.NONE);
        // Another object's calls are not this one's.
        GivenUp y = new GivenUp();
        y.week();
        y.read(0, 0);
        same(x.status(), 0);
        well(x, x.told(6), 0);
    }

    // ---- 2 to 4: STATUS, the FRACTION

    @Sentence(in = "Promise 2", says = "STATUS of the latest call that has one.")
    static void promise02_statusOfTheLatestCallThatHasOne() {
        GivenUp x = Made.some();
        x.told(10);
        same(x.status(), 1);
        same(x.status(), 1);
        x.read(2, 0);
        same(x.status(), 2);
        x.read(0, 3);
        x.top();
        x.bottom();
        x.fault(0);
        x.feed(0, 0, 0, 0, 0);
        same(x.status(), 3);
        x.give(0);
        same(x.status(), 7);
        x.week();
        same(x.status(), 0);
    }

    @Sentence(in = "Promise 3", says = "The top of the FRACTION told latest.")
    static void promise03_theTopOfTheFractionToldLatest() {
        GivenUp x = with(VALLEY, "give d;");
        give(x, 0);
        well(x, x.share(0, 0));
        same(x.top(), 4);
        well(x, x.mean(1, 0, 3));
        same(x.top(), 7);
        no(x, x.share(2, 0), 1);
        no(x, x.mean(1, 0, 0), 1);
        same(x.top(), 7);
        well(x, x.share(1, 0));
        same(x.top(), 0);
    }

    @Sentence(in = "Promise 4", says = "Its bottom, above 0.")
    static void promise04_itsBottomAbove0() {
        GivenUp x = with(VALLEY, "give d;");
        same(x.bottom(), 1);
        give(x, 0);
        well(x, x.share(0, 0));
        same(x.bottom(), 15);
        well(x, x.share(1, 0));
        same(x.bottom(), 1);
        well(x, x.share(0, 1));
        same(x.bottom(), 9);
        no(x, x.share(0, 2), 1);
        same(x.bottom(), 9);
        well(x, x.mean(1, 0, 20));
        same(x.bottom(), 1);
    }

    // ---- 5 to 8: TRAYS

    @Sentence(in = "Promise 5", says = "A TRAY is a row of so many 0s")
    static void promise05_aTrayIsARowOfSoMany0s() {
        GivenUp x = new GivenUp();
        for (int many : new int[] {1, 2, 59, 60}) {
            well(x, x.tray(0, 3, many));
            for (int place = 0; place < many; place += many > 9 ? 7 : 1) {
                well(x, x.read(0, place), 0);
                x.write(0, place, -1 - place);
            }
            well(x, x.write(0, many - 1, -1));
            no(x, x.read(0, many), 3);
        }
        // Anew it is a row of 0s, also where a shorter one stood between.
        well(x, x.tray(0, 3, 1));
        well(x, x.read(0, 0), 0);
        well(x, x.tray(0, 3, 60));
        well(x, x.read(0, 59), 0);
        well(x, x.read(0, 7), 0);
        well(x, x.tray(0, 3, 0));
        no(x, x.read(0, 0), 3);
        no(x, x.read(1, 0), 2);
    }

    @Sentence(in = "Promise 5", says = "(1).")
    static void promise05_status1() {
        ranges("tray", "0..3", "0..3", "0..60");
    }

    @Sentence(in = "Promise 6", says = "A number comes to a place of a TRAY, cut to its sort")
    static void promise06_aNumberComesToAPlaceCutToItsSort() {
        long v = 0x8182838485868788L;
        long[] cut = {(byte) 0x88, (short) 0x8788, 0x85868788, v};
        GivenUp x = new GivenUp();
        for (int sort = 0; sort < 4; sort++) {
            x.tray(sort, sort, 60);
            well(x, x.write(sort, 0, v));
            well(x, x.write(sort, 59, ~v));
            well(x, x.read(sort, 0), cut[sort]);
            well(x, x.read(sort, 59), ~cut[sort]);
            well(x, x.read(sort, 1), 0);
            well(x, x.read(sort, 58), 0);
            well(x, x.write(sort, 0, 5));
            well(x, x.read(sort, 0), 5);
        }
        well(x, x.read(0, 59), ~cut[0]);
    }

    @Sentence(in = "Promise 6", says = "(1, 2, 3).")
    static void promise06_status123() {
        ranges(Made::some, "write", new int[][] {{0, 3}, null, null}, 0, 0, 5);
        for (int place : new int[] {-1, 0, 60, Integer.MIN_VALUE, Integer.MAX_VALUE}) {
            refuses(1, Made::some, x -> x.write(4, place, 5));
            refuses(2, Made::some, x -> x.write(2, place, 5));
        }
        for (int place : new int[] {-1, 3, 60, 1 << 30, Integer.MIN_VALUE, Integer.MAX_VALUE}) {
            refuses(3, Made::some, x -> x.write(0, place, 5));
        }
        GivenUp none = new GivenUp();
        none.tray(0, 3, 0);
        no(none, none.write(0, 0, 5), 3);
        GivenUp most = new GivenUp();
        most.tray(0, 3, 60);
        well(most, most.write(0, 59, 5));
        no(most, most.write(0, 60, 5), 3);
    }

    @Sentence(in = "Promise 7", says = "The number in a place of a TRAY;")
    static void promise07_theNumberInAPlace() {
        GivenUp x = row(new GivenUp(), 0, 5, Long.MIN_VALUE, Long.MAX_VALUE, 0);
        row(x, 3, 7);
        well(x, x.read(0, 0), 5);
        well(x, x.read(0, 1), Long.MIN_VALUE);
        well(x, x.read(0, 2), Long.MAX_VALUE);
        well(x, x.read(0, 3), 0);
        well(x, x.read(3, 0), 7);
    }

    @Sentence(in = "Promise 7", says = "STATUS tells NONE from -1")
    static void promise07_statusTellsNoneFromMinus1() {
        GivenUp x = row(new GivenUp(), 0, -1);
        well(x, x.read(0, 0), -1);
        no(x, x.read(0, 1), 3);
    }

    @Sentence(in = "Promise 7", says = "(1, 2, 3).")
    static void promise07_status123() {
        ranges(Made::some, "read", new int[][] {{0, 3}, null}, 0, 0);
        for (int place : new int[] {-1, 0, 60, Integer.MIN_VALUE, Integer.MAX_VALUE}) {
            refuses(1, Made::some, x -> x.read(-1, place));
            refuses(2, Made::some, x -> x.read(2, place));
        }
        for (int place : new int[] {-1, 3, 60, 1 << 30, Integer.MIN_VALUE, Integer.MAX_VALUE}) {
            refuses(3, Made::some, x -> x.read(0, place));
        }
        GivenUp most = new GivenUp();
        most.tray(0, 3, 60);
        well(most, most.read(0, 59), 0);
        no(most, most.read(0, 60), 3);
    }

    private static void reads(GivenUp x, int tray, long... numbers) {
        for (int i = 0; i < numbers.length; i++) {
            well(x, x.read(tray, i), numbers[i]);
        }
        no(x, x.read(tray, numbers.length), 3);
    }

    @Sentence(in = "Promise 8", says = "So many numbers of a TRAY, from a place on, come to another one's")
    static void promise08_numbersComeToAnotherTray() {
        GivenUp x = row(row(new GivenUp(), 0, 1, 2, 3), 1, 4, 5, 6, 7);
        well(x, x.pour(0, 1, 1, 2, 2));
        reads(x, 0, 1, 2, 3);
        reads(x, 1, 4, 5, 2, 3);
        well(x, x.pour(0, 0, 1, 1, 3));
        reads(x, 1, 4, 1, 2, 3);
        well(x, x.pour(1, 0, 0, 0, 1));
        reads(x, 0, 4, 2, 3);
        well(x, x.pour(1, 3, 0, 2, 1));
        well(x, x.pour(1, 0, 0, 1, 0));
        reads(x, 0, 4, 2, 3);
        GivenUp most = new GivenUp();
        most.tray(0, 0, 60);
        most.tray(3, 0, 60);
        most.write(0, 0, 1);
        most.write(0, 59, -128);
        well(most, most.pour(0, 0, 3, 0, 60));
        well(most, most.read(3, 0), 1);
        well(most, most.read(3, 59), -128);
    }

    @Sentence(in = "Promise 8", says = "(or its own) place on, as they were")
    static void promise08_numbersComeToItsOwnPlacesAsTheyWere() {
        GivenUp up = row(new GivenUp(), 0, 1, 2, 3, 4, 5);
        well(up, up.pour(0, 0, 0, 1, 4));
        reads(up, 0, 1, 1, 2, 3, 4);
        GivenUp down = row(new GivenUp(), 0, 1, 2, 3, 4, 5);
        well(down, down.pour(0, 1, 0, 0, 4));
        reads(down, 0, 2, 3, 4, 5, 5);
        GivenUp none = row(new GivenUp(), 0, 1, 2, 3);
        well(none, none.pour(0, 0, 0, 0, 3));
        well(none, none.pour(0, 0, 0, 2, 0));
        reads(none, 0, 1, 2, 3);
    }

    @Sentence(in = "Promise 8", says = "(1: below 0, too;")
    static void promise08_status1BelowZeroToo() {
        ranges(Made::some, "pour", new int[][] {{0, 3}, null, {0, 3}, null, null}, 0, 0, 0, 0, 0);
        for (int v : new int[] {-1, -2, -60, Integer.MIN_VALUE}) {
            refuses(1, Made::some, x -> x.pour(0, v, 3, 0, 1));
            refuses(1, Made::some, x -> x.pour(0, 0, 3, v, 1));
            refuses(1, Made::some, x -> x.pour(0, 0, 3, 0, v));
        }
    }

    @Sentence(in = "Promise 8", says = "2; 8; 3;")
    static void promise08_status2And8And3() {
        refuses(2, Made::some, x -> x.pour(2, 0, 0, 0, 1));
        refuses(2, Made::some, x -> x.pour(0, 0, 2, 0, 1));
        refuses(8, Made::some, x -> x.pour(0, 0, 1, 0, 1));
        refuses(8, Made::some, x -> x.pour(1, 0, 0, 0, 1));
        // Three numbers in TRAY 0, four in TRAY 3.
        refuses(3, Made::some, x -> x.pour(0, 0, 3, 0, 4));
        refuses(3, Made::some, x -> x.pour(0, 1, 3, 0, 3));
        refuses(3, Made::some, x -> x.pour(0, 3, 3, 0, 1));
        refuses(3, Made::some, x -> x.pour(3, 0, 0, 0, 4));
        refuses(3, Made::some, x -> x.pour(3, 0, 0, 1, 3));
        refuses(3, Made::some, x -> x.pour(0, 0, 3, 4, 1));
        refuses(3, Made::some, x -> x.pour(0, 0, 3, 2, 3));
        refuses(3, Made::some, x -> x.pour(0, 0, 0, 1, 3));
    }

    @Sentence(in = "Promise 8", says = "2; 8; 3; asked in this order).")
    static void promise08_numbersThatWouldWrapRound() {
        int far = Integer.MAX_VALUE;
        for (int v : new int[] {far, far - 1, far - 2, 1 << 30, 61, 60}) {
            refuses(3, Made::some, x -> x.pour(0, v, 3, 0, 1));
            refuses(3, Made::some, x -> x.pour(0, 0, 3, v, 1));
            refuses(3, Made::some, x -> x.pour(0, 0, 3, 0, v));
            refuses(3, Made::some, x -> x.pour(0, v, 3, v, v));
            refuses(3, Made::some, x -> x.pour(0, 2, 3, 0, v));
            refuses(3, Made::some, x -> x.pour(0, 0, 3, 2, v));
            refuses(3, Made::some, x -> x.pour(0, v, 3, v, 2));
        }
    }

    @Sentence(in = "Promise 8", says = "asked in this order).")
    static void promise08_askedInThisOrder() {
        refuses(1, Made::some, x -> x.pour(2, -1, 2, 0, 1));
        refuses(1, Made::some, x -> x.pour(0, 0, 1, 0, -1));
        refuses(1, Made::some, x -> x.pour(2, 0, 4, 0, 1));
        refuses(2, Made::some, x -> x.pour(2, 99, 1, 0, 1));
        refuses(2, Made::some, x -> x.pour(1, 0, 2, 99, 99));
        refuses(8, Made::some, x -> x.pour(0, 99, 1, 0, 1));
        refuses(8, Made::some, x -> x.pour(0, 0, 1, 0, 99));
    }

    // ---- 9 to 12: texts

    @Sentence(in = "Promise 9", says = "Twenty bytes come behind those on the tape, the highest of each int first:")
    static void promise09_twentyBytesTheHighestFirst() {
        GivenUp x = new GivenUp();
        // "suitor abcdefg age 7" and " cows 8;" and twelve blanks.
        x.feed(0x73756974, 0x6f722061, 0x62636465, 0x66672061, 0x67652037);
        x.feed(0x20636f77, 0x7320383b, 0x20202020, 0x20202020, 0x20202020);
        well(x, x.valley(40), 0);
        well(x, x.suitor(0, 0), 7);
        well(x, x.suitor(0, 1), 8);
        // Bytes above 127 in each place of an int: no TOKEN begins so.
        for (int place = 0; place < 20; place++) {
            int[] five = {0x20202020, 0x20202020, 0x20202020, 0x20202020, 0x20202020};
            five[place / 4] |= 0xe0 << 24 - place % 4 * 8;
            GivenUp y = new GivenUp();
            same(y.feed(five[0], five[1], five[2], five[3], five[4]), 20);
            no(y, y.valley(20), 9);
            same(y.fault(0), 1);
            same(y.fault(1), place);
        }
    }

    @Sentence(in = "Promise 9", says = "how many it has;")
    static void promise09_howManyItHas() {
        GivenUp x = new GivenUp();
        same(x.feed(0, 0, 0, 0, 0), 20);
        same(x.feed(-1, -1, -1, -1, -1), 40);
        same(x.feed(Integer.MIN_VALUE, Integer.MAX_VALUE, 0, 0, 0), 60);
        x.valley(0);
        same(x.feed(0, 0, 0, 0, 0), 20);
        x.years(0);
        same(x.feed(0, 0, 0, 0, 0), 20);
        no(x, x.valley(21), 1);
        same(x.feed(0, 0, 0, 0, 0), 40);
    }

    @Sentence(in = "Promise 9", says = "NONE if there would be more than 900.")
    static void promise09_noneIfThereWouldBeMoreThan900() {
        GivenUp x = new GivenUp();
        for (int i = 1; i <= 45; i++) {
            same(x.feed(0x20202020, 0x20202020, 0x20202020, 0x20202020, 0x20202020), 20 * i);
        }
        same(x.feed(0x21212121, 0x21212121, 0x21212121, 0x21212121, 0x21212121), GivenUp.NONE);
        same(x.feed(0, 0, 0, 0, 0), GivenUp.NONE);
        no(x, x.valley(901), 1);
        well(x, x.valley(900), 0);
        same(x.feed(0, 0, 0, 0, 0), 20);
    }

    @Sentence(in = "Promise 10", says = "The first n bytes of the tape (which is empty then) are the VALLEY:")
    static void promise10_theFirstNBytesAreTheValley() {
        GivenUp x = new GivenUp();
        int n = Check.feed(x, "suitor s;suitor t;!!!");
        well(x, x.valley(n - 3), 0);
        well(x, x.told(0), 2);
        no(x, x.valley(1), 1);
        same(x.feed(0x20202020, 0, 0, 0, 0), 20);
        well(x, x.valley(4), 0);
        well(x, x.told(0), 0);
        // A text that ends within a TOKEN.
        for (String text : new String[] {"suitor st;", "weekly 12;", "weekly 0  ;", "fair 1 ;  ", "suitors t;"}) {
            GivenUp y = new GivenUp();
            Check.feed(y, text);
            no(y, y.valley(7), 9);
            same(y.fault(0), 2);
            same(y.fault(1), text.startsWith("suitors") ? 0 : 7);
        }
        for (String text : new String[] {"weekly 19;", "suitor st;"}) {
            GivenUp y = new GivenUp();
            Check.feed(y, text);
            no(y, y.valley(8), 9);
            same(y.fault(0), 2);
            same(y.fault(1), 8);
        }
        GivenUp none = new GivenUp();
        Check.feed(none, "!");
        well(none, none.valley(0), 0);
        no(none, none.valley(1), 1);
    }

    @Sentence(in = "Promise 10", says = "how many THINGS")
    static void promise10_howManyThings() {
        for (int things = 0; things <= 12; things++) {
            String text = "suitor s;maid m bar 0;" + things(things, 1);
            GivenUp x = new GivenUp();
            well(x, Check.valley(x, text), things);
        }
    }

    @Sentence(in = "Promise 10", says = "(1: n below 0, or more than the tape has, too;")
    static void promise10_status1() {
        // The tape of Made.some() has 20 bytes.
        for (int n : new int[] {-1, -2, 21, 22, 900, 901, Integer.MIN_VALUE, Integer.MAX_VALUE}) {
            refuses(1, Made::some, x -> x.valley(n));
            refuses(1, GivenUp::new, x -> x.valley(n));
        }
        GivenUp x = Made.some();
        well(x, x.valley(20), 0);
        no(x, x.valley(20), 1);
        GivenUp none = Made.some();
        well(none, none.valley(0), 0);
    }

    @Sentence(in = "Promise 10", says = "9: the old one stays).")
    static void promise10_status9TheOldOneStays() {
        GivenUp x = with(VALLEY, "give c;week;");
        give(x, 0);
        x.feign(3);
        x.mark();
        x.wed(1, 1);
        x.week();
        x.like(0, 0, 50);
        GivenUp y = with(VALLEY, "give c;week;");
        give(y, 0);
        y.feign(3);
        y.mark();
        y.wed(1, 1);
        y.week();
        y.like(0, 0, 50);
        no(y, Check.years(y, "age"), 9);
        // Each of these gets far ahead of its FAULT.
        for (String text : new String[] {"!", VALLEY + "!", "suitor z;maid y bar 0;thing x of z worth 1;weekly 9;fair 9;likes z y 9;says", "age"}) {
            no(x, Check.valley(x, text), 9);
        }
        same(Everything.of(x).equals(Everything.of(y)) ? 1 : 0, 1);
    }

    @Sentence(in = "Promise 11", says = "Likewise the YEARS: how many STEPS")
    static void promise11_howManySteps() {
        GivenUp x = new GivenUp();
        for (int steps = 0; steps <= 30; steps++) {
            well(x, Check.years(x, "week;".repeat(steps)), steps);
        }
        well(x, Check.years(x, "loop 2;loop 2;week;end;end;"), 3);
        // The first n bytes, and the tape is empty then.
        Check.feed(x, "week;week;!");
        well(x, x.years(10), 2);
        no(x, x.years(1), 1);
        no(x, x.valley(1), 1);
        well(x, x.live(0), 2);
        Check.feed(x, "week;");
        no(x, x.years(3), 9);
        same(x.fault(1), 0);
        no(x, x.years(1), 1);
        well(x, x.live(0), 2);
    }

    @Sentence(in = "Promise 11", says = "(1: above 300, too;")
    static void promise11_status1Above300Too() {
        for (int n : new int[] {-1, 21, 300, 301, Integer.MIN_VALUE, Integer.MAX_VALUE}) {
            refuses(1, Made::some, x -> x.years(n));
        }
        GivenUp x = new GivenUp();
        Check.feed(x, " ".repeat(320));
        no(x, x.years(301), 1);
        no(x, x.years(320), 1);
        no(x, x.years(321), 1);
        same(x.feed(0, 0, 0, 0, 0), 340);
        well(x, x.years(300), 0);
    }

    @Sentence(in = "Promise 11", says = "9).")
    static void promise11_status9TheOldOnesStay() {
        GivenUp x = with(VALLEY, "give a;week;");
        for (String text : new String[] {"!", "week;week;loop 5;give b;end;stop", "loop 100", "end;", "give x;"}) {
            no(x, Check.years(x, text), 9);
        }
        GivenUp y = with(VALLEY, "give a;week;");
        no(y, Check.years(y, "give x;"), 9);
        same(Everything.of(x).equals(Everything.of(y)) ? 1 : 0, 1);
    }

    @Sentence(in = "Promise 12", says = "Of the latest valley() or years() with STATUS 0 or 9,")
    static void promise12_ofTheLatestWithStatus0Or9() {
        GivenUp x = new GivenUp();
        Check.valley(x, "suitor s;suitor s;");
        same(x.fault(0), 3);
        same(x.fault(1), 16);
        x.valley(-1);
        x.valley(1);
        x.years(301);
        same(x.fault(0), 3);
        same(x.fault(1), 16);
        Check.years(x, "week;!");
        same(x.fault(0), 1);
        same(x.fault(1), 5);
        tell(x, "suitor s;");
        same(x.fault(0), 0);
        same(x.fault(1), GivenUp.NONE);
        Check.years(x, "!");
        tellYears(x, "week;");
        same(x.fault(0), 0);
        Check.years(x, "!");
        x.mark();
        x.week();
        x.undo();
        same(x.fault(0), 1);
    }

    @Sentence(in = "Promise 12", says = "what 0: the FAULT (0 without one),")
    static void promise12_what0TheFault() {
        String[] texts = {"", "!", "age", "thing a of b worth 1;", "weekly 0;", "weekly 2;weekly", "suitor a;suitor b;suitor c;suitor d;suitor"};
        int[] faults = {0, 1, 2, 3, 4, 5, 6};
        for (int i = 0; i < texts.length; i++) {
            GivenUp x = new GivenUp();
            Check.valley(x, texts[i]);
            same(x.fault(0), faults[i]);
        }
        GivenUp x = new GivenUp();
        Check.years(x, "loop 1;loop 1;loop 1;loop");
        same(x.fault(0), 7);
    }

    @Sentence(in = "Promise 12", says = "1: its place (NONE without).")
    static void promise12_what1ItsPlace() {
        GivenUp x = new GivenUp();
        Check.valley(x, "!");
        same(x.fault(1), 0);
        Check.valley(x, " ".repeat(899) + "!");
        same(x.fault(1), 899);
        Check.valley(x, "suitor" + " ".repeat(894));
        same(x.fault(1), 900);
        tell(x, "suitor s;");
        same(x.fault(1), GivenUp.NONE);
        Check.years(x, "week" + " ".repeat(296));
        same(x.fault(1), 300);
        tellYears(x, "");
        same(x.fault(1), GivenUp.NONE);
    }

    @Sentence(in = "Promise 12", says = "NONE for others, and ahead of any.")
    static void promise12_noneForOthersAndAheadOfAny() {
        GivenUp x = new GivenUp();
        x.valley(1);
        x.years(-1);
        for (int what : new int[] {0, 1, 2, -1, Integer.MIN_VALUE, Integer.MAX_VALUE}) {
            same(x.fault(what), GivenUp.NONE);
        }
        Check.valley(x, "suitor s;suitor s;");
        for (int what : new int[] {2, 3, -1, -2, 256, 65536, Integer.MIN_VALUE, Integer.MAX_VALUE}) {
            same(x.fault(what), GivenUp.NONE);
        }
        same(x.fault(0), 3);
    }

    // ---- 13 to 18: what was told

    @Sentence(in = "Promise 13", says = "How many SUITORS (what 0), MAIDS (1), THINGS (2), AFTERS (3);")
    static void promise13_howMany() {
        GivenUp x = with("suitor a;suitor b;suitor c;maid m bar 0;maid n bar 0;thing t of a worth 1;thing u of a worth 1;thing v of a worth 1;"
                + "thing w of a worth 1;after t u;after u v;after v w;after w t;after t v;");
        int[] told = {3, 2, 4, 5};
        for (int what = 0; what < 4; what++) {
            well(x, x.told(what), told[what]);
        }
        // An AFTER that is told again is one more that was told.
        GivenUp again = with("suitor a;thing t of a worth 1;thing u of a worth 1;after t u;after t u;");
        well(again, again.told(3), 2);
    }

    @Sentence(in = "Promise 13", says = "WEEKLY (4), FAIR (5), the WEEK (6), couples that have WED (7);")
    static void promise13_weeklyFairWeekCouples() {
        GivenUp x = with("suitor a;suitor b;suitor c;suitor d;maid m bar 0;maid n bar 0;maid o bar 0;maid p bar 0;weekly 7;fair 19;");
        well(x, x.told(4), 7);
        well(x, x.told(5), 19);
        for (int i = 0; i < 4; i++) {
            well(x, x.told(6), i);
            well(x, x.told(7), i);
            x.wed(i, 3 - i);
            x.week();
        }
        well(x, x.told(7), 4);
        toWeek(x, 999);
        well(x, x.told(6), 999);
    }

    @Sentence(in = "Promise 13", says = "sets of THINGS (1 for THING 0 ..) that are GIVEN (8), FEIGNED (9)")
    static void promise13_setsOfThingsGivenAndFeigned() {
        StringBuilder text = new StringBuilder("suitor s;suitor t;weekly 9;");
        for (int i = 0; i < 12; i++) {
            text.append("thing ").append((char) ('a' + i)).append("x of ").append(i < 6 ? "s" : "t").append(" worth 1;");
        }
        GivenUp x = with(text.toString());
        int given = 0;
        int feigned = 0;
        for (int i = 0; i < 12; i++) {
            if (i % 3 == 2) {
                x.feign(i);
                feigned |= 1 << i;
            } else {
                give(x, i);
                given |= 1 << i;
            }
            well(x, x.told(8), given);
            well(x, x.told(9), feigned);
        }
        x.found(11);
        well(x, x.told(9), feigned - 2048);
    }

    @Sentence(in = "Promise 13", says = "FEIGNED (9) (1).")
    static void promise13_status1() {
        ranges("told", "0..9");
    }

    @Sentence(in = "Promise 14", says = "Of a SUITOR, what 0: AGE, 1: COWS,")
    static void promise14_ageAndCows() {
        GivenUp x = with("suitor s age 0 cows 99;suitor t age 99;suitor u cows 9;maid m bar 0 mother 9;");
        int[][] due = {{0, 99}, {99, 0}, {20, 9}};
        for (int suitor = 0; suitor < 3; suitor++) {
            well(x, x.suitor(suitor, 0), due[suitor][0]);
            well(x, x.suitor(suitor, 1), due[suitor][1]);
        }
        x.wed(2, 0);
        well(x, x.suitor(2, 1), 0);
        well(x, x.suitor(0, 1), 99);
    }

    @Sentence(in = "Promise 14", says = "2: how many THINGS he has GIVEN or FEIGNED in this WEEK,")
    static void promise14_howManyThisWeek() {
        GivenUp x = with(VALLEY);
        well(x, x.suitor(0, 2), 0);
        give(x, 0);
        well(x, x.suitor(0, 2), 1);
        x.feign(1);
        well(x, x.suitor(0, 2), 2);
        no(x, x.give(2), 7);
        well(x, x.suitor(0, 2), 2);
        well(x, x.suitor(1, 2), 0);
        x.feign(3);
        well(x, x.suitor(1, 2), 1);
        x.week();
        well(x, x.suitor(0, 2), 0);
        well(x, x.suitor(1, 2), 0);
    }

    @Sentence(in = "Promise 14", says = "3: LEFT, 4: LOSS,")
    static void promise14_leftAndLoss() {
        GivenUp x = with(VALLEY);
        well(x, x.suitor(0, 3), 15);
        well(x, x.suitor(0, 4), 0);
        give(x, 0);
        x.feign(1);
        well(x, x.suitor(0, 3), 11);
        well(x, x.suitor(0, 4), 4);
        well(x, x.suitor(1, 3), 7);
        well(x, x.suitor(1, 4), 0);
    }

    @Sentence(in = "Promise 14", says = "5: his MAID (6: he has not WED),")
    static void promise14_hisMaid() {
        refuses(6, () -> with(VALLEY), x -> x.suitor(0, 5));
        GivenUp x = with("suitor s;suitor t;suitor u;suitor v;maid m bar 0;maid n bar 0;maid o bar 0;maid p bar 0;");
        x.wed(1, 3);
        well(x, x.suitor(1, 5), 3);
        no(x, x.suitor(3, 5), 6);
        x.wed(3, 0);
        well(x, x.suitor(3, 5), 0);
    }

    @Sentence(in = "Promise 14", says = "6: the set of his THINGS")
    static void promise14_theSetOfHisThings() {
        GivenUp x = with("suitor s;suitor t;suitor u;thing a of t worth 1;thing b of s worth 1;thing c of t worth 1;");
        well(x, x.suitor(0, 6), 2);
        well(x, x.suitor(1, 6), 5);
        well(x, x.suitor(2, 6), 0);
        give(x, 0);
        x.feign(2);
        well(x, x.suitor(1, 6), 5);
    }

    @Sentence(in = "Promise 14", says = "6: the set of his THINGS (1).")
    static void promise14_status1() {
        ranges("suitor", "S", "0..6");
    }

    @Sentence(in = "Promise 15", says = "Of a MAID, what 0: BAR as told, 1: RISES, 2: MOTHER, 3: BAR now,")
    static void promise15_barRisesMotherBarNow() {
        GivenUp x = with("maid m bar 999 rises 20 mother 9;maid n bar 0;maid o bar 7 rises 1;");
        x.week();
        int[][] due = {{999, 20, 9, 1019}, {0, 0, 0, 0}, {7, 1, 0, 8}};
        for (int maid = 0; maid < 3; maid++) {
            for (int what = 0; what < 4; what++) {
                well(x, x.maid(maid, what), due[maid][what]);
            }
        }
        x.bar(0, 1);
        well(x, x.maid(0, 0), 1);
        well(x, x.maid(0, 3), 21);
    }

    @Sentence(in = "Promise 15", says = "4: her SUITOR (6: she has not WED)")
    static void promise15_herSuitor() {
        refuses(6, () -> with(VALLEY), x -> x.maid(0, 4));
        GivenUp x = with("suitor s;suitor t;suitor u;suitor v;maid m bar 0;maid n bar 0;maid o bar 0;maid p bar 0;");
        x.wed(3, 1);
        well(x, x.maid(1, 4), 3);
        no(x, x.maid(3, 4), 6);
        x.wed(0, 3);
        well(x, x.maid(3, 4), 0);
    }

    @Sentence(in = "Promise 15", says = "(6: she has not WED) (1).")
    static void promise15_status1() {
        ranges("maid", "M", "0..4");
    }

    @Sentence(in = "Promise 16", says = "Of a THING, what 0: its SUITOR, 1: WORTH,")
    static void promise16_itsSuitorAndWorth() {
        GivenUp x = with("suitor s;suitor t;thing a of t worth 0;thing b of s worth 99;");
        well(x, x.thing(0, 0), 1);
        well(x, x.thing(1, 0), 0);
        well(x, x.thing(0, 1), 0);
        well(x, x.thing(1, 1), 99);
        give(x, 0);
        well(x, x.thing(0, 0), 1);
    }

    @Sentence(in = "Promise 16", says = "2: 0 had, 1 GIVEN, 2 FEIGNED,")
    static void promise16_hadGivenFeigned() {
        GivenUp x = with(VALLEY);
        well(x, x.thing(0, 2), 0);
        x.feign(0);
        well(x, x.thing(0, 2), 2);
        x.found(0);
        well(x, x.thing(0, 2), 0);
        give(x, 0);
        well(x, x.thing(0, 2), 1);
        toWeek(x, 5);
        x.back(0);
        well(x, x.thing(0, 2), 0);
    }

    @Sentence(in = "Promise 16", says = "3: the set of what it is AFTER (told),")
    static void promise16_theSetOfWhatItIsAfterAsTold() {
        GivenUp x = with("suitor s;thing a of s worth 1;thing b of s worth 1;thing c of s worth 1;thing d of s worth 1;after b a;after c b;after c d;after c b;after a d;");
        int[] after = {8, 1, 10, 0};
        for (int thing = 0; thing < 4; thing++) {
            well(x, x.thing(thing, 3), after[thing]);
        }
        give(x, 3);
        well(x, x.thing(0, 3), 8);
    }

    @Sentence(in = "Promise 16", says = "4: DEEP")
    static void promise16_deep() {
        GivenUp x = with("suitor s;thing a of s worth 1;thing b of s worth 1;thing c of s worth 1;thing d of s worth 1;after b a;after c b;after c d;after d c;");
        int[] deep = {0, 1, 99, 99};
        for (int thing = 0; thing < 4; thing++) {
            well(x, x.thing(thing, 4), deep[thing]);
        }
    }

    @Sentence(in = "Promise 16", says = "4: DEEP (1).")
    static void promise16_status1() {
        ranges("thing", "T", "0..4");
    }

    @Sentence(in = "Promise 17", says = "What a THING SAYS to a MAID")
    static void promise17_whatAThingSays() {
        GivenUp x = with(VALLEY);
        well(x, x.says(2, 0), 6);
        well(x, x.says(2, 1), 9);
        well(x, x.says(3, 1), 7);
        give(x, 0);
        well(x, x.says(0, 0), 4);
    }

    @Sentence(in = "Promise 17", says = "(1).")
    static void promise17_status1() {
        ranges("says", "T", "M");
    }

    @Sentence(in = "Promise 18", says = "How much a SUITOR LIKES a MAID")
    static void promise18_howMuchHeLikesHer() {
        GivenUp x = with(VALLEY);
        well(x, x.likes(0, 0), 3);
        well(x, x.likes(0, 1), 0);
        well(x, x.likes(1, 0), 0);
        well(x, x.likes(1, 1), 99);
        x.wed(1, 1);
        well(x, x.likes(1, 1), 99);
    }

    @Sentence(in = "Promise 18", says = "(1).")
    static void promise18_status1() {
        ranges("likes", "S", "M");
    }
}
