import java.util.function.Supplier;

/** Terms 5: which STATUS a call has, and what one with another than 0 leaves as it was. */
final class Terms5Sentences extends Due {
    /** The VALLEY of Made.some(), never lived, without YEARS and MARKS. */
    private static GivenUp bare() {
        return with(Made.VALLEY);
    }

    // ---- each STATUS

    @Sentence(in = "Terms 5", says = "STATUS of a call is the first of these that holds:")
    static void terms5_theFirstThatHolds() {
        Supplier<GivenUp> x = Made::some;
        // 1 ahead of 2, of 3, of 4, of 5, of 6, of 7, of 9.
        refuses(1, x, y -> y.write(4, -1, 0));
        refuses(1, x, y -> y.bolter(2, 2));
        refuses(1, x, y -> y.bolter(3, -1));
        refuses(1, x, y -> y.pour(2, 0, 2, 0, -1));
        refuses(1, x, y -> y.pour(0, 0, 1, -1, 0));
        refuses(1, x, y -> y.suitor(0, 7));
        refuses(1, x, y -> y.least(2, 1, 100));
        refuses(1, x, y -> y.soonest(2, 3));
        refuses(1, x, y -> y.rivals(2, 2, 1));
        refuses(1, x, y -> y.wed(2, 3));
        refuses(1, x, y -> y.years(301));
        refuses(1, x, y -> y.valley(21));
        refuses(1, Terms5Sentences::bare, y -> y.live(10000));
        refuses(1, Terms5Sentences::bare, y -> y.lived(5));
        refuses(1, Terms5Sentences::bare, y -> y.mean(0, 0, 0));
        refuses(1, x, y -> y.villager(100, 2));
        refuses(1, x, y -> y.mean(3, 0, 1));
        // 2 ahead of 3; 3 ahead of 5; 5 ahead of 6.
        refuses(2, x, y -> y.write(2, -1, 0));
        refuses(2, x, y -> y.read(2, 60));
        refuses(3, () -> row(Made.some(), 0, 9, 9), y -> y.bolts(0));
        refuses(3, () -> row(Made.some(), 0, 9, 9), y -> y.bolter(0, 0));
        refuses(5, () -> row(Made.some(), 0, 0, 1, 3), y -> y.bolter(0, 0));
        // 4 where it is the only one: a WEEK, a MARK too many.
        refuses(4, Made::threeMarks, GivenUp::mark);
    }

    @Sentence(in = "Terms 5", says = "1 a number that can't be;")
    static void terms5_status1ANumberThatCantBe() {
        for (int v : new int[] {-1, Integer.MIN_VALUE, Integer.MAX_VALUE}) {
            refuses(1, Made::some, x -> x.tray(0, v, 3));
            refuses(1, Made::some, x -> x.tray(0, 0, v));
            refuses(1, Made::some, x -> x.told(v));
            refuses(1, Made::some, x -> x.suitor(0, v));
            refuses(1, Made::some, x -> x.maid(0, v));
            refuses(1, Made::some, x -> x.thing(0, v));
            refuses(1, Made::some, x -> x.like(0, 0, v));
            refuses(1, Made::some, x -> x.bar(0, v));
            refuses(1, Made::some, x -> x.least(0, 0, v));
            refuses(1, Made::some, x -> x.village(v, 0));
            refuses(1, Made::some, x -> x.village(0, v));
            refuses(1, Made::some, x -> x.bolter(0, v));
            refuses(1, Made::some, x -> x.ends(0, v));
            refuses(1, Made::some, x -> x.lies(0, 0, v));
            refuses(1, Made::some, x -> x.live(v));
            refuses(1, Made::some, x -> x.lived(v));
            refuses(1, Made::some, x -> x.mean(0, v, 1));
            refuses(1, Made::some, x -> x.mean(0, 0, v));
            refuses(1, Made::some, x -> x.valley(v));
            refuses(1, Made::some, x -> x.years(v));
        }
    }

    @Sentence(in = "Terms 5", says = "no such TRAY, SUITOR, MAID, THING.")
    static void terms5_status1NoSuchOne() {
        // As many as there are is one too many: 4 TRAYS, 3 SUITORS, 3 MAIDS, 7 THINGS.
        for (int v : new int[] {-1, 3, 4, 7, 12, Integer.MIN_VALUE, Integer.MAX_VALUE}) {
            if (v != 3) {
                refuses(1, Made::some, x -> x.read(v, 0));
                refuses(1, Made::some, x -> x.keep(v));
            }
            if (v < 0 || v > 6) {
                refuses(1, Made::some, x -> x.give(v));
                refuses(1, Made::some, x -> x.needs(v));
                refuses(1, Made::some, x -> x.says(v, 0));
            }
            refuses(1, Made::some, x -> x.bare(v));
            refuses(1, Made::some, x -> x.orders(v));
            refuses(1, Made::some, x -> x.heard(v, 0));
            refuses(1, Made::some, x -> x.heard(0, v));
            refuses(1, Made::some, x -> x.proud(v));
            refuses(1, Made::some, x -> x.cheats(v));
        }
        // One of a VALLEY ahead is no such one.
        GivenUp gone = with(Made.VALLEY);
        tell(gone, "suitor s;maid m bar 0;thing a of s worth 1;");
        no(gone, gone.bare(1), 1);
        no(gone, gone.proud(1), 1);
        no(gone, gone.needs(1), 1);
        GivenUp nobody = new GivenUp();
        no(nobody, nobody.bare(0), 1);
        no(nobody, nobody.proud(0), 1);
        no(nobody, nobody.needs(0), 1);
    }

    @Sentence(in = "Terms 5", says = "2 the TRAY is MISSING.")
    static void terms5_status2TheTrayIsMissing() {
        refuses(2, Made::some, x -> x.read(2, 0));
        refuses(2, Made::some, x -> x.write(2, 0, 5));
        refuses(2, Made::some, x -> x.pour(2, 0, 0, 0, 0));
        refuses(2, Made::some, x -> x.pour(0, 0, 2, 0, 0));
        refuses(2, Made::some, x -> x.bolts(2));
        refuses(2, Made::some, x -> x.bolter(2, 0));
        refuses(2, Made::some, x -> x.keep(2));
        // A TRAY of no numbers is not MISSING.
        GivenUp none = Made.some();
        none.tray(2, 0, 0);
        no(none, none.read(2, 0), 3);
    }

    @Sentence(in = "Terms 5", says = "3 a place that the TRAY has not,")
    static void terms5_status3APlaceThatTheTrayHasNot() {
        for (int place : new int[] {-1, 3, 4, 60, Integer.MIN_VALUE, Integer.MAX_VALUE}) {
            refuses(3, Made::some, x -> x.read(0, place));
            refuses(3, Made::some, x -> x.write(0, place, 5));
            if (place >= 0) {
                refuses(3, Made::some, x -> x.pour(0, place, 3, 0, 1));
            }
            if (place > 3) {
                refuses(3, Made::some, x -> x.pour(0, 0, 3, place, 1));
            }
        }
    }

    @Sentence(in = "Terms 5", says = "or too few numbers.")
    static void terms5_status3TooFewNumbers() {
        refuses(3, () -> row(Made.some(), 0, 0, 1), x -> x.bolts(0));
        refuses(3, () -> row(Made.some(), 0), x -> x.bolter(0, 0));
        refuses(3, () -> row(Made.some(), 0, 7, 7), x -> x.keep(0));
        refuses(3, Made::some, x -> x.pour(0, 0, 3, 0, 4));
    }

    @Sentence(in = "Terms 5", says = "4 one too many.")
    static void terms5_status4OneTooMany() {
        refuses(4, Made::threeMarks, GivenUp::mark);
        refuses(4, () -> toWeek(with(Made.VALLEY), 999), GivenUp::week);
    }

    @Sentence(in = "Terms 5", says = "5 a number in a TRAY that can't be.")
    static void terms5_status5ANumberInATrayThatCantBe() {
        refuses(5, () -> row(Made.some(), 0, 0, 1, 3), x -> x.bolts(0));
        refuses(5, () -> row(Made.some(), 0, -2, 1, 2), x -> x.bolter(0, 1));
        refuses(5, () -> row(Made.some(), 0, 1, 0, 1), x -> x.bolts(0));
        refuses(5, () -> row(Made.some(), 0, Long.MIN_VALUE, 0, 1), x -> x.bolts(0));
    }

    @Sentence(in = "Terms 5", says = "6 there is none such.")
    static void terms5_status6ThereIsNoneSuch() {
        refuses(6, Made::some, x -> x.suitor(0, 5));
        refuses(6, Made::some, x -> x.maid(0, 4));
        refuses(6, Made::some, x -> x.villager(0, 2));
        refuses(6, Terms5Sentences::bare, x -> x.live(0));
        refuses(6, Terms5Sentences::bare, x -> x.lived(0));
        refuses(6, Terms5Sentences::bare, x -> x.mean(0, 0, 1));
        refuses(6, Terms5Sentences::bare, GivenUp::undo);
        refuses(6, () -> with("maid m bar 5;suitor s;"), x -> x.share(0, 0));
        refuses(6, () -> with("maid m bar 5;suitor s;"), x -> x.dearest(0, 0));
        refuses(6, () -> with("maid m bar 5;suitor s;"), x -> x.cheapest(0, 99));
        refuses(6, () -> with("maid m bar 5;suitor s;"), x -> x.least(0, 0, 99));
        refuses(6, () -> with("maid m bar 5;"), x -> x.wouldHave(0));
        refuses(6, () -> with("suitor s;"), x -> x.asked(0));
        refuses(6, () -> row(with("suitor s;"), 0, -1), x -> x.bolter(0, 0));
    }

    @Sentence(in = "Terms 5", says = "7 it can't be.")
    static void terms5_status7ItCantBe() {
        refuses(7, Made::some, x -> x.give(0));
        refuses(7, Made::some, x -> x.give(5));
        refuses(7, Made::some, x -> x.feign(3));
        refuses(7, Made::some, x -> x.found(0));
        refuses(7, Made::some, x -> x.wed(1, 0));
        refuses(7, Made::some, x -> x.wed(2, 1));
        refuses(7, Made::some, x -> x.back(0));
        refuses(7, Made::some, x -> x.least(2, 0, 0));
        refuses(7, Made::some, x -> x.leastSet(0, 1, 0));
        refuses(7, Made::some, x -> x.fewest(2, 1, 0));
        refuses(7, Made::some, x -> x.soonest(2, 0));
        refuses(7, Made::some, x -> x.most(2, 0, 0));
        refuses(7, Made::some, x -> x.rivals(0, 2, 0));
        refuses(7, Made::some, x -> x.cheapest(2, 0));
        refuses(7, Made::some, x -> x.within(2, 0));
    }

    @Sentence(in = "Terms 5", says = "8 TRAYS are of unlike sorts.")
    static void terms5_status8UnlikeSorts() {
        for (int a = 0; a < 4; a++) {
            for (int b = 0; b < 4; b++) {
                int from = a;
                int to = b;
                Supplier<GivenUp> made = () -> {
                    GivenUp x = Made.some();
                    x.tray(0, from, 2);
                    x.tray(1, to, 2);
                    return x;
                };
                if (a == b) {
                    GivenUp x = made.get();
                    well(x, x.pour(0, 0, 1, 0, 2));
                } else {
                    refuses(8, made, x -> x.pour(0, 0, 1, 0, 2));
                    refuses(8, made, x -> x.pour(0, 0, 1, 0, 0));
                }
            }
        }
    }

    @Sentence(in = "Terms 5", says = "9 a FAULT.")
    static void terms5_status9AFault() {
        GivenUp x = Made.some();
        x.valley(20);
        well(x, x.told(5), 3);
        no(x, Check.valley(x, "suitor"), 9);
        no(x, Check.valley(x, "!"), 9);
        no(x, Check.years(x, "give"), 9);
        no(x, Check.years(x, "!"), 9);
    }

    @Sentence(in = "Terms 5", says = "0 else.")
    static void terms5_status0Else() {
        GivenUp x = Made.some();
        x.undo();
        well(x, x.read(1, 2), -7);
        well(x, x.write(0, 0, 5));
        well(x, x.tray(2, 0, 0));
        well(x, x.pour(0, 0, 3, 1, 3));
        well(x, x.valley(20), 0);
        well(x, x.years(0), 0);
        well(x, x.undo(), 0);
        well(x, x.told(9), 0);
        well(x, x.suitor(2, 6), 32 + 64);
        well(x, x.give(0), 4);
        well(x, x.lacks(0, 0), 6);
        well(x, x.like(0, 0, 0));
        well(x, x.bar(0, 0));
        well(x, x.feign(3), 1);
        well(x, x.found(3), 0);
        well(x, x.within(0, 0), 7);
        well(x, x.ways(0), 3);
        well(x, x.week(), 1);
        well(x, x.mark(), 1);
    }

    @Sentence(in = "Terms 5", says = "STATUS of a call is the first of these that holds: 1 a number")
    static void terms5_eachCallHasAStatusOfItsOwn() {
        // Behind a call with STATUS 2 each of these has 0.
        Call[] calls = {x -> x.tray(2, 0, 1), x -> x.write(0, 0, 1), x -> x.read(0, 0), x -> x.pour(0, 0, 3, 0, 1), x -> x.told(0),
            x -> x.suitor(0, 0), x -> x.maid(0, 0), x -> x.thing(0, 0), x -> x.says(0, 0), x -> x.likes(0, 0), x -> x.give(2),
            x -> x.feign(2), x -> x.found(3), x -> x.may(0), GivenUp::week, x -> x.heard(0, 0), x -> x.yes(0, 0), x -> x.lacks(0, 0),
            x -> x.wed(0, 0), x -> x.back(1), GivenUp::toFair, x -> x.bare(0), x -> x.wouldHave(0), x -> x.proud(0), x -> x.dearest(0, 0),
            x -> x.share(0, 0), x -> x.like(0, 0, 0), x -> x.bar(0, 0), x -> x.least(0, 0, 0), x -> x.leastSet(0, 0, 0), x -> x.fewest(0, 0, 0),
            x -> x.soonest(0, 0), x -> x.most(0, 0, 0), x -> x.rivals(0, 1, 0), x -> x.cheapest(0, 0), x -> x.within(0, 0),
            x -> x.village(0, 0), x -> x.villager(0, 0), x -> x.bolts(0), x -> x.bolter(0, 0), x -> x.asked(0), GivenUp::refusals,
            x -> x.keep(0), x -> x.orders(0), x -> x.ends(0, 0), x -> x.needs(0), x -> x.never(0), x -> x.ways(0), x -> x.lies(0, 0, 0),
            x -> x.cheats(0), x -> x.live(0), x -> x.lived(0), x -> x.mean(0, 0, 1), GivenUp::mark, GivenUp::undo, x -> x.years(0),
            x -> x.valley(20)};
        same(calls.length, 57);
        for (Call call : calls) {
            // WEEK 2, a FAIR; s is HEARD 13 by m, who asks 12, has GIVEN a and b and has COWS; d is FEIGNED.
            GivenUp x = with(Made.VALLEY, "give a;give b;feign d;week;week;");
            x.live(0);
            row(x, 0, -1, -1, -1);
            row(x, 3, 1);
            x.mark();
            x.feed(0x66616972, 0x20333b20, 0x20202020, 0x20202020, 0x20202020);
            no(x, x.read(1, 0), 2);
            call.on(x);
            same(x.status(), 0);
        }
    }

    // ---- what another STATUS than 0 leaves

    @Sentence(in = "Terms 5", says = "With another STATUS than 0 a call gives NONE, or false, and changes nothing else")
    static void terms5_arefusedCallChangesNothingElse() {
        // The calls that change something, each refused in each way that it can be.
        refuses(1, Made::some, x -> x.tray(0, 0, 61));
        refuses(1, Made::some, x -> x.tray(0, 4, 2));
        refuses(3, Made::some, x -> x.write(0, 3, 5));
        refuses(8, Made::some, x -> x.pour(0, 0, 1, 0, 3));
        refuses(3, Made::some, x -> x.pour(0, 0, 3, 2, 3));
        refuses(3, Made::some, x -> x.pour(3, 0, 0, 1, 3));
        refuses(1, Made::some, x -> x.valley(-1));
        refuses(1, Made::some, x -> x.years(21));
        refuses(1, Made::some, x -> x.like(0, 0, 100));
        refuses(1, Made::some, x -> x.like(0, 3, 5));
        refuses(1, Made::some, x -> x.bar(0, 1000));
        refuses(1, Made::some, x -> x.bar(3, 0));
        refuses(1, Made::some, x -> x.live(-1));
        refuses(1, Made::some, x -> x.mean(0, 9999, 2));
        refuses(3, () -> row(Made.some(), 0, 7, 7), x -> x.keep(0));
        refuses(4, Made::threeMarks, GivenUp::mark);
        refuses(7, Made::some, x -> x.give(6));
        refuses(7, Made::some, x -> x.feign(1));
        refuses(7, Made::some, x -> x.found(1));
        refuses(7, Made::some, x -> x.wed(0, 1));
        refuses(7, Made::some, x -> x.back(3));
    }

    @Sentence(in = "Terms 5", says = "(but valley(), years() with 9 the tape, and what fault() tells).")
    static void terms5_butWithAFaultTheTapeAndWhatFaultTells() {
        for (boolean valley : new boolean[] {true, false}) {
            GivenUp x = Made.some();
            same(x.feed(0x21212121, 0, 0, 0, 0), 40);
            no(x, valley ? x.valley(25) : x.years(25), 9);
            same(x.fault(0), valley ? 1 : 2);
            same(x.fault(1), valley ? 20 : 0);
            // The tape is empty.
            no(x, x.valley(1), 1);
            same(x.fault(1), valley ? 20 : 0);
            // All else is as it was: the same FAULT and an empty tape at one where they came otherwise.
            GivenUp y = Made.some();
            no(y, y.years(1), 9);
            no(x, Check.years(x, "f"), 9);
            same(Everything.of(x).equals(Everything.of(y)) ? 1 : 0, 1);
        }
    }

    @Sentence(in = "Terms 5", says = "status(), top(), bottom(), feed(), fault() have none.")
    static void terms5_callsWithoutAStatus() {
        GivenUp x = Made.some();
        for (int i = 0; i < 44; i++) {
            x.feed(0x20202020, 0x20202020, 0x20202020, 0x20202020, 0x20202020);
        }
        x.write(2, 0, 0);
        for (int i = 0; i < 2; i++) {
            same(x.status(), 2);
            x.top();
            same(x.status(), 2);
            x.bottom();
            same(x.status(), 2);
            same(x.feed(0, 0, 0, 0, 0), GivenUp.NONE);
            same(x.status(), 2);
            x.fault(0);
            same(x.fault(9), GivenUp.NONE);
            same(x.status(), 2);
        }
        x.valley(900);
        x.told(-1);
        same(x.feed(0, 0, 0, 0, 0), 20);
        same(x.status(), 1);
    }
}
