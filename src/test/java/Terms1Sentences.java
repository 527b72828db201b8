/** Terms 1: TRAYS, the tokens and the PARTS of a VALLEY, their ranges, the FAULTS. */
final class Terms1Sentences extends Due {
    private static final String OWN = "suitor, age, cows, maid, bar, rises, mother, thing, of, worth, says, to, after, likes,"
            + " weekly, fair, give, any, week, wed, with, back, feign, when, heard, yes, bare, loop, end, stop";
    private static final String S = "suitor s;";
    private static final String SM = "suitor s;maid m bar 5;";
    private static final String ST = "suitor s;thing t of s worth 7;thing u of s worth 8;";
    private static final String ALL = "suitor s;suitor r;maid m bar 5;maid n bar 5;thing t of s worth 7;thing u of s worth 8;thing v of r worth 9;";

    /** So many PARTS, the NAMES in them a, b, c .. with an x behind. */
    private static String many(int times, String ahead, String behind) {
        StringBuilder text = new StringBuilder();
        for (int i = 0; i < times; i++) {
            text.append(ahead).append((char) ('a' + i)).append("x").append(behind);
        }
        return text.toString();
    }

    // ---- TRAYS

    @Sentence(in = "Terms 1", says = "TRAYS 0 to 3")
    static void terms1_traysAre0To3() {
        ranges(GivenUp::new, "tray", new int[][] {{0, 3}, null, null}, 0, 0, 1);
        GivenUp x = new GivenUp();
        for (int tray = 0; tray < 4; tray++) {
            x.tray(tray, 3, 1);
            x.write(tray, 0, 10 + tray);
        }
        for (int tray = 0; tray < 4; tray++) {
            well(x, x.read(tray, 0), 10 + tray);
        }
    }

    @Sentence(in = "Terms 1", says = "are MISSING at first")
    static void terms1_traysAreMissingAtFirst() {
        for (int tray = 0; tray < 4; tray++) {
            GivenUp x = new GivenUp();
            no(x, x.read(tray, 0), 2);
            no(x, x.write(tray, 0, 1), 2);
            no(x, x.pour(tray, 0, tray, 0, 0), 2);
            no(x, x.bolts(tray), 2);
            no(x, x.keep(tray), 2);
        }
    }

    @Sentence(in = "Terms 1", says = "or rows of 0 to 60 numbers")
    static void terms1_rowsOf0To60Numbers() {
        ranges(GivenUp::new, "tray", new int[][] {null, null, {0, 60}}, 0, 0, 1);
        GivenUp x = new GivenUp();
        well(x, x.tray(0, 0, 0));
        no(x, x.read(0, 0), 3);
        well(x, x.tray(0, 3, 60));
        well(x, x.write(0, 59, 7));
        well(x, x.read(0, 59), 7);
        well(x, x.read(0, 58), 0);
        no(x, x.read(0, 60), 3);
    }

    /** The greatest and the least of so many bits, then one beyond each of them. */
    private static void bits(int sort, int bits) {
        GivenUp x = new GivenUp();
        x.tray(1, sort, 3);
        long greatest = (1L << bits - 1) - 1;
        long least = -greatest - 1;
        long[][] cuts = {{greatest, greatest}, {least, least}, {greatest + 1, least}, {least - 1, greatest}, {-1, -1}, {0, 0},
            {bits < 64 ? 1L << bits : 0, 0}, {bits < 64 ? (1L << bits) + 5 : 5, 5},
            {Long.MAX_VALUE, bits < 64 ? -1 : Long.MAX_VALUE}, {Long.MIN_VALUE, bits < 64 ? 0 : Long.MIN_VALUE}};
        for (long[] cut : cuts) {
            well(x, x.write(1, 1, cut[0]));
            well(x, x.read(1, 1), cut[1]);
            well(x, x.read(1, 0), 0);
            well(x, x.read(1, 2), 0);
        }
    }

    @Sentence(in = "Terms 1", says = "of 8 bits (sort 0)")
    static void terms1_sort0Is8Bits() {
        bits(0, 8);
    }

    @Sentence(in = "Terms 1", says = "16 (1)")
    static void terms1_sort1Is16Bits() {
        bits(1, 16);
    }

    @Sentence(in = "Terms 1", says = "32 (2)")
    static void terms1_sort2Is32Bits() {
        bits(2, 32);
    }

    @Sentence(in = "Terms 1", says = "or 64 (3).")
    static void terms1_sort3Is64BitsAndTheLast() {
        bits(3, 64);
        ranges(GivenUp::new, "tray", new int[][] {null, {0, 3}, null}, 0, 0, 1);
    }

    // ---- TOKENS

    @Sentence(in = "Terms 1", says = "A VALLEY is a TEXT of at most 900 bytes.")
    static void terms1_aTextOfAtMost900Bytes() {
        GivenUp x = fine("suitor s" + " ".repeat(891) + ";");
        well(x, x.told(0), 1);
        GivenUp y = new GivenUp();
        Check.feed(y, "suitor s" + " ".repeat(892));
        same(y.feed(0x3b3b3b3b, 0, 0, 0, 0), GivenUp.NONE);
        no(y, y.valley(901), 1);
        no(y, y.valley(900), 9);
        same(y.fault(0), 2);
        same(y.fault(1), 900);
        fault(1, 899, "suitor s;" + " ".repeat(890) + "!");
    }

    @Sentence(in = "Terms 1", says = "TOKENS, as long as they go")
    static void terms1_tokensAreAsLongAsTheyGo() {
        fault(2, 0, "suitors;");
        fault(2, 9, "suitor a agee 5;");
        fault(2, 9, "suitor a ag 5;");
        fault(4, 13, "suitor a age 100;");
        fault(2, 16, "suitor a age 10 0;");
        fault(2, 7, "suitor abcdefghi;");
        fault(2, 16, "suitor abcdefgh i;");
        GivenUp x = fine("suitor ab;suitor abc;suitor a;");
        well(x, x.told(0), 3);
        fault(1, 13, "suitor a age 00001;");
    }

    @Sentence(in = "Terms 1", says = "between them blanks (10, 32)")
    static void terms1_betweenThemBlanks10And32AndNoOthers() {
        for (int sign = 0; sign < 256; sign++) {
            char c = (char) sign;
            String text = "suitor" + c + " a;";
            if (c == 10 || c == 32) {
                fine(text);
            } else if (c >= 'a' && c <= 'z') {
                fault(2, 0, text);
            } else {
                fault(c >= '0' && c <= '9' || c == ';' || c == '<' || c == '>' || c == '=' ? 2 : 1, 6, text);
            }
        }
        GivenUp x = fine("\n  suitor\n\n \na\n\nage  7\n;  \n");
        well(x, x.suitor(0, 0), 7);
        GivenUp y = fine("suitor a age7cows3;suitor b;");
        well(y, y.suitor(0, 0), 7);
        well(y, y.suitor(0, 1), 3);
    }

    @Sentence(in = "Terms 1", says = ": WORDS (small letters)")
    static void terms1_wordsAreOfSmallLetters() {
        for (char c = 'a'; c <= 'z'; c++) {
            fine("suitor " + c + ";");
        }
        for (char c = 'A'; c <= 'Z'; c++) {
            fault(1, 7, "suitor " + c + ";");
        }
        fault(1, 0, "Suitor a;");
        fault(1, 8, "suitor a`;");
        fault(1, 8, "suitor z{;");
    }

    @Sentence(in = "Terms 1", says = "NUMBERS (1 to 4 digits)")
    static void terms1_numbersAreOf1To4Digits() {
        for (String number : new String[] {"7", "07", "007", "0007"}) {
            GivenUp x = fine("suitor a age " + number + ";");
            well(x, x.suitor(0, 0), 7);
        }
        GivenUp all = fine("maid m bar 0123;maid n bar 456;maid o bar 789;");
        well(all, all.maid(0, 0), 123);
        well(all, all.maid(1, 0), 456);
        well(all, all.maid(2, 0), 789);
        fault(1, 13, "suitor a age 00007;");
        fault(1, 13, "suitor a age /;");
        fault(1, 13, "suitor a age :;");
        fault(1, 13, "suitor a age 4294967303;");
    }

    @Sentence(in = "Terms 1", says = "SIGNS ; < > =")
    static void terms1_signsAreTokensWhereverTheyStand() {
        for (String sign : new String[] {";", "<", ">", "="}) {
            fault(2, 0, sign);
            fault(2, 7, "suitor " + sign);
            fault(2, 13, "suitor a age " + sign);
        }
        fault(1, 8, "suitor a,");
        fault(1, 8, "suitor a:");
        fault(1, 8, "suitor a?");
        fault(2, 9, "suitor a;;");
    }

    // ---- PARTS

    /** A PART is fine; cut, with a sign too many, or without one of its TOKENS it is none. */
    private static void form(String ahead, String part) {
        fine(ahead + part);
        form(ahead, part, "=", Terms1Sentences::fault);
    }

    @Sentence(in = "Terms 1", says = "VALLEY: {PART}.")
    static void terms1_aValleyIsPartsAnyNumberOfTimes() {
        GivenUp none = fine("");
        well(none, none.told(0), 0);
        fine(" ");
        fine(ALL);
        for (String first : new String[] {"a", "7", "abcdefghij", "age", "cows", "bar", "rises", "mother", "of", "worth", "to", "give",
            "any", "week", "wed", "with", "back", "feign", "when", "heard", "yes", "bare", "loop", "end", "stop"}) {
            fault(2, 0, first);
            fault(2, 9, S + first);
        }
    }

    @Sentence(in = "Terms 1", says = "PART: suitor NAME [age NUMBER] [cows NUMBER] ;")
    static void terms1_suitorPart() {
        form("", "suitor a age 5 cows 6 ;");
        form("", "suitor a age 5 ;");
        form("", "suitor a cows 6 ;");
        form(S, "suitor a ;");
        fault(2, 16, "suitor a cows 6 age 5;");
        fault(2, 15, "suitor a age 5 age 5;");
        fault(2, 16, "suitor a cows 6 cows 6;");
        fault(2, 9, "suitor a 5;");
    }

    @Sentence(in = "Terms 1", says = "or maid NAME bar NUMBER [rises NUMBER] [mother NUMBER] ;")
    static void terms1_maidPart() {
        form("", "maid a bar 5 rises 6 mother 7 ;");
        form("", "maid a bar 5 rises 6 ;");
        form("", "maid a bar 5 mother 7 ;");
        form(S, "maid a bar 5 ;");
        fault(2, 6, "maid a;");
        fault(2, 22, "maid a bar 5 mother 7 rises 6;");
        fault(2, 21, "maid a bar 5 rises 6 rises 6;");
        fault(2, 22, "maid a bar 5 mother 7 mother 7;");
        fault(2, 7, "maid a rises 6;");
    }

    @Sentence(in = "Terms 1", says = "or thing NAME of NAME worth NUMBER ;")
    static void terms1_thingPart() {
        form(S, "thing a of s worth 5 ;");
        fault(2, S.length() + 7, S + "thing a;");
        fault(2, S.length() + 12, S + "thing a of s;");
        fault(2, S.length() + 8, S + "thing a worth 5;");
    }

    @Sentence(in = "Terms 1", says = "or says NAME to NAME NUMBER ;")
    static void terms1_saysPart() {
        form(ALL, "says t to m 5 ;");
        fault(2, ALL.length() + 6, ALL + "says t;");
        fault(2, ALL.length() + 11, ALL + "says t to m;");
        fault(2, ALL.length() + 7, ALL + "says t m 5;");
    }

    @Sentence(in = "Terms 1", says = "or after NAME NAME ;")
    static void terms1_afterPart() {
        form(ALL, "after t u ;");
        fault(2, ALL.length() + 5, ALL + "after;");
        fault(2, ALL.length() + 10, ALL + "after t u t;");
    }

    @Sentence(in = "Terms 1", says = "or likes NAME NAME NUMBER ;")
    static void terms1_likesPart() {
        form(ALL, "likes s m 5 ;");
        fault(2, ALL.length() + 7, ALL + "likes s;");
        fault(2, ALL.length() + 8, ALL + "likes s to m 5;");
    }

    @Sentence(in = "Terms 1", says = "or weekly NUMBER ;")
    static void terms1_weeklyPart() {
        form(S, "weekly 5 ;");
        fault(2, 9, "weekly 5 6;");
    }

    @Sentence(in = "Terms 1", says = "or fair NUMBER ;")
    static void terms1_fairPart() {
        form(S, "fair 5 ;");
        fault(2, 7, "fair 5 6;");
    }

    @Sentence(in = "Terms 1", says = "({ } any number of times, [ ] perhaps.)")
    static void terms1_anyNumberOfTimesAndPerhaps() {
        GivenUp x = fine(many(4, "suitor ", ";") + many(12, "thing y", " of ax worth 1;"));
        well(x, x.told(0), 4);
        well(x, x.told(2), 12);
        GivenUp none = fine("");
        well(none, none.told(0), 0);
        GivenUp likes = fine(SM + "likes s m 5;".repeat(72) + "likes s m 6;");
        well(likes, likes.likes(0, 0), 6);
        GivenUp perhaps = fine("suitor s;suitor t age 1;suitor u cows 2;suitor v age 3 cows 4;");
        well(perhaps, perhaps.suitor(3, 0) + perhaps.suitor(3, 1), 7);
    }

    @Sentence(in = "Terms 1", says = "NAME: a WORD of 1 to 8 letters")
    static void terms1_aNameIsAWordOf1To8Letters() {
        fine("suitor a;");
        fine("suitor abcdefgh;suitor abcdefgi;suitor bbcdefgh;suitor abcdefg;");
        fine("suitor zzzzzzzz;suitor zzzzzzz;suitor zz;suitor z;");
        fault(3, 23, "suitor zzzzzzzz;suitor zzzzzzzz;");
        fault(2, 7, "suitor abcdefghi;");
        fault(2, 23, "suitor abcdefgh;suitor abcdefgha;");
        fault(2, 7, "suitor " + "z".repeat(500) + ";");
        fault(2, 5, "maid abcdefghi bar 5;");
        fault(2, S.length() + 6, S + "thing abcdefghi of s worth 5;");
        fault(2, S.length() + 11, S + "thing a of sssssssss worth 5;");
    }

    @Sentence(in = "Terms 1", says = "that is none of " + OWN + ".")
    static void terms1_aNameIsNoneOfTheOwnWords() {
        for (String own : OWN.split(", ")) {
            fault(2, 7, "suitor " + own + ";");
            fault(2, 5, "maid " + own + " bar 5;");
            fault(2, S.length() + 6, S + "thing " + own + " of s worth 5;");
            if (own.length() < 8) {
                fine("suitor " + own + "s;suitor s" + own + ";");
            }
        }
        fine("suitor sto;suitor en;suitor fai;suitor feig;");
    }

    @Sentence(in = "Terms 1", says = "One NAME is of one thing alone.")
    static void terms1_oneNameIsOfOneThingAlone() {
        String all = "suitor s;maid m bar 5;thing t of s worth 5;";
        int n = all.length();
        for (String name : new String[] {"s", "m", "t"}) {
            fault(3, n + 7, all + "suitor " + name + ";");
            fault(3, n + 5, all + "maid " + name + " bar 5;");
            fault(3, n + 6, all + "thing " + name + " of s worth 5;");
        }
        fine(all + "suitor r;maid n bar 5;thing u of s worth 5;");
    }

    @Sentence(in = "Terms 1", says = "SUITORS, at most 4:")
    static void terms1_atMost4Suitors() {
        String four = many(4, "suitor ", ";");
        GivenUp x = fine(four);
        well(x, x.told(0), 4);
        fault(6, four.length(), four + "suitor e;");
    }

    /** A NUMBER at both ends of its range, and beyond it. */
    private static void number(String ahead, int low, int high, String behind) {
        fine(ahead + low + behind);
        fine(ahead + high + behind);
        if (low > 0) {
            fault(4, ahead.length(), ahead + (low - 1) + behind);
        }
        fault(4, ahead.length(), ahead + (high + 1) + behind);
        fault(4, ahead.length(), ahead + "9999" + behind);
        fault(4, ahead.length(), ahead + 1024 + behind);
        fault(1, ahead.length(), ahead + "10000" + behind);
        fault(1, ahead.length(), ahead + "4294967296" + behind);
    }

    @Sentence(in = "Terms 1", says = "AGE (0 to 99; 20 without)")
    static void terms1_age0To99And20Without() {
        number("suitor s age ", 0, 99, ";");
        GivenUp x = fine("suitor a age 0;suitor b age 99;suitor c;suitor d cows 5;");
        well(x, x.suitor(0, 0), 0);
        well(x, x.suitor(1, 0), 99);
        well(x, x.suitor(2, 0), 20);
        well(x, x.suitor(3, 0), 20);
    }

    @Sentence(in = "Terms 1", says = "COWS (0 to 99; 0 without).")
    static void terms1_cows0To99And0Without() {
        number("suitor s cows ", 0, 99, ";");
        GivenUp x = fine("suitor a cows 0;suitor b cows 99;suitor c;suitor d age 5;");
        well(x, x.suitor(0, 1), 0);
        well(x, x.suitor(1, 1), 99);
        well(x, x.suitor(2, 1), 0);
        well(x, x.suitor(3, 1), 0);
    }

    @Sentence(in = "Terms 1", says = "MAIDS, at most 4:")
    static void terms1_atMost4Maids() {
        String four = many(4, "maid ", " bar 5;");
        GivenUp x = fine(four);
        well(x, x.told(1), 4);
        fault(6, four.length(), four + "maid e bar 5;");
        fine(four + many(4, "suitor y", ";"));
    }

    @Sentence(in = "Terms 1", says = "BAR (0 to 999)")
    static void terms1_bar0To999() {
        number("maid m bar ", 0, 999, ";");
        GivenUp x = fine("maid a bar 0;maid b bar 999;");
        well(x, x.maid(0, 0), 0);
        well(x, x.maid(1, 0), 999);
    }

    @Sentence(in = "Terms 1", says = "RISES (0 to 20; 0 without)")
    static void terms1_rises0To20And0Without() {
        number("maid m bar 5 rises ", 0, 20, ";");
        GivenUp x = fine("maid a bar 5 rises 0;maid b bar 5 rises 20;maid c bar 5;maid d bar 5 mother 5;");
        well(x, x.maid(0, 1), 0);
        well(x, x.maid(1, 1), 20);
        well(x, x.maid(2, 1), 0);
        well(x, x.maid(3, 1), 0);
    }

    @Sentence(in = "Terms 1", says = "MOTHER (0 to 9; 0 without)")
    static void terms1_mother0To9And0Without() {
        number("maid m bar 5 mother ", 0, 9, ";");
        GivenUp x = fine("maid a bar 5 mother 0;maid b bar 5 mother 9;maid c bar 5;maid d bar 5 rises 5;");
        well(x, x.maid(0, 2), 0);
        well(x, x.maid(1, 2), 9);
        well(x, x.maid(2, 2), 0);
        well(x, x.maid(3, 2), 0);
    }

    @Sentence(in = "Terms 1", says = ": so many COWS.")
    static void terms1_aMotherAsksSoManyCows() {
        GivenUp x = fine("suitor s cows 8;suitor t cows 9;maid m bar 0 mother 9;");
        no(x, x.wed(0, 0), 7);
        well(x, x.wed(1, 0), 0);
    }

    @Sentence(in = "Terms 1", says = "THINGS, at most 12:")
    static void terms1_atMost12Things() {
        String twelve = S + many(12, "thing ", " of s worth 5;");
        GivenUp x = fine(twelve);
        well(x, x.told(2), 12);
        well(x, x.suitor(0, 6), 4095);
        fault(6, twelve.length(), twelve + "thing m of s worth 5;");
    }

    @Sentence(in = "Terms 1", says = "OF a SUITOR")
    static void terms1_aThingIsOfASuitor() {
        GivenUp x = fine("suitor a;suitor b;suitor c;suitor d;thing t of d worth 1;thing u of a worth 1;thing v of c worth 1;");
        well(x, x.thing(0, 0), 3);
        well(x, x.thing(1, 0), 0);
        well(x, x.thing(2, 0), 2);
        fault(3, SM.length() + 11, SM + "thing t of m worth 1;");
        fault(3, ST.length() + 11, ST + "thing v of t worth 1;");
        fault(3, SM.length() + 11, SM + "thing t of t worth 1;");
    }

    @Sentence(in = "Terms 1", says = "WORTH (0 to 99).")
    static void terms1_worth0To99() {
        number(S + "thing t of s worth ", 0, 99, ";");
        GivenUp x = fine(S + "thing t of s worth 0;thing u of s worth 99;");
        well(x, x.thing(0, 1), 0);
        well(x, x.thing(1, 1), 99);
    }

    @Sentence(in = "Terms 1", says = "SAYS: what a THING says TO a MAID (0 to 99; its WORTH without; told again: the latest).")
    static void terms1_says0To99() {
        number(ALL + "says t to m ", 0, 99, ";");
        GivenUp x = fine(ALL + "says t to m 0;says u to n 99;");
        well(x, x.says(0, 0), 0);
        well(x, x.says(1, 1), 99);
        fault(3, ALL.length() + 5, ALL + "says m to m 5;");
        fault(3, ALL.length() + 5, ALL + "says s to m 5;");
        fault(3, ALL.length() + 10, ALL + "says t to t 5;");
        fault(3, ALL.length() + 10, ALL + "says t to s 5;");
    }

    @Sentence(in = "Terms 1", says = "its WORTH without")
    static void terms1_saysItsWorthWithout() {
        GivenUp x = fine(ALL + "says t to m 0;maid o bar 1;");
        well(x, x.says(0, 0), 0);
        well(x, x.says(0, 1), 7);
        well(x, x.says(0, 2), 7);
        well(x, x.says(1, 0), 8);
        well(x, x.says(2, 0), 9);
    }

    @Sentence(in = "Terms 1", says = "told again: the latest). AFTER")
    static void terms1_saysToldAgainTheLatest() {
        GivenUp x = fine(ALL + "says t to m 50;says t to n 3;says t to m 4;says u to m 2;says u to m 90;says v to n 9;says v to n 0;");
        well(x, x.says(0, 0), 4);
        well(x, x.says(0, 1), 3);
        well(x, x.says(1, 0), 90);
        well(x, x.says(2, 1), 0);
    }

    @Sentence(in = "Terms 1", says = "AFTER, at most 12:")
    static void terms1_atMost12Afters() {
        String things = S + many(4, "thing ", " of s worth 5;");
        String twelve = things;
        for (String a : new String[] {"ax", "bx", "cx", "dx"}) {
            for (String b : new String[] {"ax", "bx", "cx", "dx"}) {
                twelve += a.equals(b) ? "" : "after " + a + " " + b + ";";
            }
        }
        GivenUp x = fine(twelve);
        well(x, x.told(3), 12);
        well(x, x.thing(3, 3), 7);
        fault(6, twelve.length(), twelve + "after ax bx;");
    }

    @Sentence(in = "Terms 1", says = "the first THING can't be given ahead of the second;")
    static void terms1_theFirstCantBeGivenAheadOfTheSecond() {
        GivenUp x = fine(ST + "after t u;");
        no(x, x.give(0), 7);
        well(x, x.give(1), 8);
        well(x, x.give(0), 15);
    }

    @Sentence(in = "Terms 1", says = "both are of one SUITOR.")
    static void terms1_bothAreOfOneSuitor() {
        fine(ALL + "after t u;");
        fault(5, ALL.length() + 8, ALL + "after t v;");
        fault(5, ALL.length() + 8, ALL + "after v t;");
    }

    @Sentence(in = "Terms 1", says = "LIKES: how much a SUITOR likes a MAID (0 to 99; 0 without; told again: the latest).")
    static void terms1_likes0To99() {
        number(ALL + "likes s m ", 0, 99, ";");
        GivenUp x = fine(ALL + "likes s m 0;likes r n 99;");
        well(x, x.likes(0, 0), 0);
        well(x, x.likes(1, 1), 99);
        fault(3, ALL.length() + 6, ALL + "likes m m 5;");
        fault(3, ALL.length() + 6, ALL + "likes t m 5;");
        fault(3, ALL.length() + 8, ALL + "likes s s 5;");
        fault(3, ALL.length() + 8, ALL + "likes s t 5;");
    }

    @Sentence(in = "Terms 1", says = "0 without; told again: the latest). WEEKLY")
    static void terms1_likes0WithoutAndToldAgainTheLatest() {
        GivenUp x = fine(ALL + "likes s m 50;likes s m 4;likes r n 2;likes r n 90;");
        well(x, x.likes(0, 0), 4);
        well(x, x.likes(0, 1), 0);
        well(x, x.likes(1, 0), 0);
        well(x, x.likes(1, 1), 90);
    }

    @Sentence(in = "Terms 1", says = "WEEKLY: how many THINGS a SUITOR gives in a WEEK at most (1 to 9; 2 without).")
    static void terms1_weekly1To9And2Without() {
        number("weekly ", 1, 9, ";");
        GivenUp one = fine("weekly 1;");
        well(one, one.told(4), 1);
        GivenUp nine = fine("weekly 9;");
        well(nine, nine.told(4), 9);
        GivenUp without = fine(S);
        well(without, without.told(4), 2);
    }

    @Sentence(in = "Terms 1", says = "FAIR: each so many WEEKS (1 to 20; 4 without).")
    static void terms1_fair1To20And4Without() {
        number("fair ", 1, 20, ";");
        GivenUp one = fine("fair 1;");
        well(one, one.told(5), 1);
        GivenUp twenty = fine("fair 20;");
        well(twenty, twenty.told(5), 20);
        GivenUp without = fine(S);
        well(without, without.told(5), 4);
    }

    @Sentence(in = "Terms 1", says = "All are numbered as they stand;")
    static void terms1_allAreNumberedAsTheyStand() {
        GivenUp x = fine("maid z bar 9;suitor y age 8;thing x of y worth 7;suitor a age 6;maid b bar 5;thing c of a worth 4;"
                + "maid d bar 3;suitor e age 2;thing f of y worth 1;");
        int[] age = {8, 6, 2};
        int[] bar = {9, 5, 3};
        int[] worth = {7, 4, 1};
        for (int i = 0; i < 3; i++) {
            well(x, x.suitor(i, 0), age[i]);
            well(x, x.maid(i, 0), bar[i]);
            well(x, x.thing(i, 1), worth[i]);
        }
        well(x, x.suitor(0, 6), 5);
    }

    @Sentence(in = "Terms 1", says = "what a PART names must be told ahead.")
    static void terms1_whatAPartNamesMustBeToldAhead() {
        fault(3, 11, "thing t of s worth 5;suitor s;");
        fault(3, 14, "suitor s;says t to m 5;maid m bar 5;thing t of s worth 5;");
        fault(3, ST.length() + 10, ST + "says t to m 5;maid m bar 5;");
        fault(3, ST.length() + 8, ST + "after t v;thing v of s worth 5;");
        fault(3, 20, "maid m bar 5; likes s m 5;suitor s;");
        fault(3, 17, "suitor s;likes s m 5;maid m bar 5;");
    }

    // ---- FAULTS

    @Sentence(in = "Terms 1", says = "FAULTS, the first along the text")
    static void terms1_theFirstFaultAlongTheText() {
        fault(4, 13, "suitor s age 100;!");
        fault(3, 16, "suitor s;suitor s;suitor t age 100;!");
        fault(2, 8, "suitor s<;!");
        fault(6, 36, "suitor a;suitor b;suitor c;suitor d;suitor a;");
        fault(5, S.length() + 9, S + "weekly 5;weekly 50;");
        fault(2, 7, "suitor abcdefghi!;");
        fault(1, 8, "suitor s! suitor s;");
    }

    @Sentence(in = "Terms 1", says = "(of one TOKEN the least kind)")
    static void terms1_ofOneTokenTheLeastKind() {
        // A NUMBER of five digits that can't be, or that can't stand there: 1, not 4, not 2.
        fault(1, 13, "suitor s age 99999;");
        fault(1, 7, "suitor 99999;");
        // A WORD that can't stand where it is one too many, or told already: 2, not 6, not 5.
        fault(2, 45, many(4, "suitor ", ";") + "maid suitor");
        fault(2, 11, "weekly 5 ; ; weekly 5;");
        fault(2, 9, "weekly 5 weekly 5;");
        fault(2, 7, "fair 5 fair 5;");
        // A second THING that is no such one: 3, not 5.
        fault(3, ST.length() + 8, ST + "after t s;");
        // An own WORD that is no such NAME, or would be a new one: 2, not 3.
        fault(2, ST.length() + 8, ST + "after t week;");
        fault(2, 7, "suitor end;");
    }

    @Sentence(in = "Terms 1", says = ": 1 no TOKEN begins so (a NUMBER of 5 digits and more: at its first).")
    static void terms1_fault1NoTokenBeginsSo() {
        for (String sign : new String[] {"!", "A", "\t", "\r", "\u0000", "\u0080", "\u00ff", "\u00e4", "-", "+", ".", ",", "(", "_", "#", "@"}) {
            fault(1, 0, sign);
            fault(1, 2, "  " + sign);
            fault(1, 9, S + sign);
            fault(1, 7, "suitor " + sign);
            fault(1, 8, "suitor s" + sign);
            fault(1, 13, "suitor s age " + sign);
        }
        fault(1, 13, "suitor s age 10000;");
        fault(1, 13, "suitor s age 00000;");
        fault(1, 13, "suitor s age " + "0".repeat(300) + "5;");
        fault(1, 0, "12345");
        fine("suitor s age 0000;");
    }

    @Sentence(in = "Terms 1", says = "2 it can't stand there (the end: the text's length;")
    static void terms1_fault2TheEndIsTheTextsLength() {
        fault(2, 6, "suitor");
        fault(2, 8, "suitor  ");
        fault(2, 9, "suitor s ");
        fault(2, 8, "suitor s");
        fault(2, 900, "suitor" + "\n".repeat(894));
        GivenUp x = new GivenUp();
        Check.feed(x, "suitor s;");
        no(x, x.valley(8), 9);
        same(x.fault(0), 2);
        same(x.fault(1), 8);
    }

    @Sentence(in = "Terms 1", says = "a WORD of 9 letters and more where a NAME must stand).")
    static void terms1_fault2AWordOf9LettersWhereANameMustStand() {
        for (String name : new String[] {"abcdefghi", "suitorsss", "ttttttttt", "x".repeat(100)}) {
            fault(2, 7, "suitor " + name + ";");
            fault(2, 5, "maid " + name + " bar 5;");
            fault(2, ALL.length() + 6, ALL + "thing " + name + " of s worth 5;");
            fault(2, ALL.length() + 11, ALL + "thing a of " + name + " worth 5;");
            fault(2, ALL.length() + 5, ALL + "says " + name + " to m 5;");
            fault(2, ALL.length() + 10, ALL + "says t to " + name + " 5;");
            fault(2, ALL.length() + 6, ALL + "after " + name + " t;");
            fault(2, ALL.length() + 8, ALL + "after t " + name + ";");
            fault(2, ALL.length() + 6, ALL + "likes " + name + " m 5;");
            fault(2, ALL.length() + 8, ALL + "likes s " + name + " 5;");
        }
    }

    @Sentence(in = "Terms 1", says = "3 a new NAME that is taken;")
    static void terms1_fault3ANewNameThatIsTaken() {
        fault(3, 16, "suitor s;suitor s;");
        fault(3, SM.length() + 5, SM + "maid m bar 5;");
        fault(3, ST.length() + 6, ST + "thing t of s worth 5;");
        fault(3, ST.length() + 6, ST + "thing u of s worth 5;");
        String four = many(4, "suitor ", ";");
        fault(3, four.length() + 5, four + "maid dx bar 5;");
        String twelve = S + many(12, "thing ", " of s worth 5;");
        fault(3, twelve.length() + 5, twelve + "maid lx bar 5;");
        String maids = many(4, "maid ", " bar 5;");
        fault(3, maids.length() + 7, maids + "suitor dx;");
    }

    @Sentence(in = "Terms 1", says = "a NAME that is no such one told ahead.")
    static void terms1_fault3ANameThatIsNoSuchOne() {
        int n = ALL.length();
        for (String name : new String[] {"x", "m", "t", "ss"}) {
            fault(3, n + 11, ALL + "thing a of " + name + " worth 5;");
            fault(3, n + 6, ALL + "likes " + name + " m 5;");
        }
        for (String name : new String[] {"x", "s", "m", "tt"}) {
            fault(3, n + 5, ALL + "says " + name + " to m 5;");
            fault(3, n + 6, ALL + "after " + name + " t;");
            fault(3, n + 8, ALL + "after t " + name + ";");
        }
        for (String name : new String[] {"x", "s", "t", "mm"}) {
            fault(3, n + 10, ALL + "says t to " + name + " 5;");
            fault(3, n + 8, ALL + "likes s " + name + " 5;");
        }
        // Where there are as many SUITORS as there may be, the next NAME is a MAID's; where as many MAIDS, a THING's.
        String full = many(4, "suitor ", ";") + many(4, "maid m", " bar 5;") + "thing t of ax worth 5;";
        int f = full.length();
        fault(3, f + 6, full + "likes max max 5;");
        fault(3, f + 11, full + "thing u of max worth 5;");
        fault(3, f + 9, full + "likes ax t 5;");
        fault(3, f + 10, full + "says t to t 5;");
        fault(3, f + 5, full + "says mdx to mdx 5;");
        GivenUp gone = fine("suitor s;");
        same(Check.valley(gone, "suitor r;thing t of s worth 5;"), GivenUp.NONE);
        same(gone.fault(0), 3);
        same(gone.fault(1), 20);
    }

    @Sentence(in = "Terms 1", says = "4 a NUMBER that can't be.")
    static void terms1_fault4ANumberThatCantBe() {
        fault(4, 13, "suitor s age 100");
        fault(4, 13, "suitor s age 0100 cows 5;");
        fault(4, 14, "suitor s cows 100;");
        fault(4, 11, "maid m bar 1000;");
        fault(4, 19, "maid m bar 5 rises 21;");
        fault(4, 20, "maid m bar 5 mother 10;");
        fault(4, S.length() + 19, S + "thing t of s worth 100;");
        fault(4, ALL.length() + 12, ALL + "says t to m 100;");
        fault(4, ALL.length() + 10, ALL + "likes s m 100;");
        fault(4, 7, "weekly 0;");
        fault(4, 7, "weekly 10;");
        fault(4, 5, "fair 0;");
        fault(4, 5, "fair 21;");
    }

    @Sentence(in = "Terms 1", says = "5 a THING AFTER itself, or one of another SUITOR (at the second NAME);")
    static void terms1_fault5AfterItselfOrAnotherSuitors() {
        fault(5, ALL.length() + 8, ALL + "after t t;");
        fault(5, ALL.length() + 8, ALL + "after v v;");
        fault(5, ALL.length() + 8, ALL + "after t v;");
        fault(5, ALL.length() + 8, ALL + "after v u");
        fine(ALL + "after t u;after u t;");
    }

    @Sentence(in = "Terms 1", says = "weekly, fair told already (at that WORD).")
    static void terms1_fault5WeeklyOrFairToldAlready() {
        fault(5, 9, "weekly 2;weekly 2;");
        fault(5, 7, "fair 4;fair 4;");
        fault(5, 16, "weekly 2;fair 4;weekly");
        fault(5, 16, "fair 4;weekly 2;fair");
        fault(5, 18, "weekly 5;suitor a;weekly 5;");
        fine("fair 4;weekly 2;");
    }

    @Sentence(in = "Terms 1", says = "6 a fifth suitor, maid, a 13th thing, after (at that WORD).")
    static void terms1_fault6OneTooMany() {
        String suitors = many(4, "suitor ", ";");
        String maids = many(4, "maid ", " bar 5;");
        String things = S + many(12, "thing ", " of s worth 5;");
        String afters = ST + "after t u;".repeat(12);
        for (String behind : new String[] {"", " ax;", " !", " zz", " 99999"}) {
            fault(6, suitors.length(), suitors + "suitor" + behind);
            fault(6, maids.length(), maids + "maid" + behind);
            fault(6, things.length(), things + "thing" + behind);
            fault(6, afters.length(), afters + "after" + behind);
        }
        fine(suitors);
        fine(maids);
        fine(things);
        fine(afters);
    }

    // ---- a VALLEY that is taken

    @Sentence(in = "Terms 1", says = "A VALLEY that is taken is there in place of that ahead;")
    static void terms1_aValleyIsThereInPlaceOfThatAhead() {
        GivenUp x = new GivenUp();
        // Three times, so that wherever it is kept there was another.
        for (int i = 0; i < 3; i++) {
            tell(x, ALL + "says t to m 1;likes s m 9;after t u;after u t;weekly 9;fair 9;");
        }
        tell(x, "suitor z age 3;maid y bar 0;thing w of z worth 6;thing k of z worth 2;");
        int[] told = {1, 1, 2, 0, 2, 4, 0, 0, 0, 0};
        for (int what = 0; what < told.length; what++) {
            well(x, x.told(what), told[what]);
        }
        well(x, x.says(0, 0), 6);
        well(x, x.likes(0, 0), 0);
        well(x, x.thing(0, 3), 0);
        well(x, x.needs(0), 0);
        well(x, x.never(0), 0);
        well(x, x.suitor(0, 1), 0);
        no(x, x.suitor(1, 0), 1);
        no(x, x.thing(2, 0), 1);
    }

    /** A VALLEY behind some of which all has become that can, so that wherever it is kept there was one. */
    private static GivenUp lived() {
        String text = "suitor a cows 5;suitor b cows 5;maid m bar 0 mother 2;thing t of a worth 1;thing u of b worth 1;";
        GivenUp x = with(text);
        for (int i = 0; i < 3; i++) {
            tellYears(x, "week;");
            x.week();
            x.give(0);
            x.feign(1);
            x.wed(0, 0);
            tell(x, text);
        }
        return x;
    }

    @Sentence(in = "Terms 1", says = "it is WEEK 0,")
    static void terms1_itIsWeek0Then() {
        GivenUp x = lived();
        well(x, x.told(6), 0);
        well(x, x.suitor(0, 2), 0);
        well(x, x.suitor(1, 2), 0);
        well(x, x.toFair(), 4);
    }

    @Sentence(in = "Terms 1", says = "nothing is GIVEN or FEIGNED,")
    static void terms1_nothingIsGivenOrFeignedThen() {
        GivenUp x = lived();
        well(x, x.told(8), 0);
        well(x, x.told(9), 0);
        well(x, x.thing(0, 2), 0);
        well(x, x.thing(1, 2), 0);
    }

    @Sentence(in = "Terms 1", says = "nobody has WED,")
    static void terms1_nobodyHasWedThen() {
        GivenUp x = lived();
        well(x, x.told(7), 0);
        no(x, x.suitor(0, 5), 6);
        no(x, x.maid(0, 4), 6);
        well(x, x.suitor(0, 1), 5);
    }

    @Sentence(in = "Terms 1", says = "there are no YEARS.")
    static void terms1_thereAreNoYearsThen() {
        GivenUp x = lived();
        no(x, x.live(0), 6);
        no(x, x.mean(0, 0, 1), 6);
        tellYears(x, "week;");
        tell(x, "");
        no(x, x.live(0), 6);
    }
}
