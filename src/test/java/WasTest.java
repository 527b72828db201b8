/** Promises 52 to 58: orders, ends, needs, never, ways, lies, cheats. */
public final class WasTest {
    // a, then b or c, then d behind both; e and f in a ring, g behind it; h free.
    private static final String VALLEY = "suitor s;suitor t;maid m bar 5;maid n bar 0;weekly 9;"
            + "thing a of s worth 1;thing b of s worth 2;thing c of s worth 3;thing d of s worth 4;"
            + "thing e of s worth 1;thing f of s worth 1;thing g of s worth 1;thing h of s worth 5;thing i of t worth 6;"
            + "after b a;after c a;after d b;after d c;after e f;after f e;after g f;";

    public static void main(String[] args) {
        orders();
        ends();
        needs();
        never();
        ways();
        lies();
        cheats();
        Check.end("WasTest");
    }

    private static void orders() {
        GivenUp x = Check.with(VALLEY);
        Check.refused(x, "orders(2)", x.orders(2), 1);
        Check.refused(x, "orders(-1)", x.orders(-1), 1);
        Check.well(x, "of nothing GIVEN", x.orders(0), 1);
        x.give(0);
        Check.well(x, "of one", x.orders(0), 1);
        x.give(2);
        x.give(1);
        Check.well(x, "of a, b and c", x.orders(0), 2);
        x.give(3);
        Check.well(x, "of a, b, c and d", x.orders(0), 2);
        x.feign(7);
        Check.well(x, "FEIGNED ones are not GIVEN", x.orders(0), 2);
        x.found(7);
        x.give(7);
        Check.well(x, "h may stand in five places", x.orders(0), 10);
        Check.well(x, "of t", x.orders(1), 1);
        GivenUp y = Check.with(twelve());
        for (int i = 0; i < 12; i++) {
            y.give(i);
            if (i == 8) {
                y.week();
            }
        }
        Check.well(y, "12 by 11 .. by 1", y.orders(0), 479001600L);
    }

    private static String twelve() {
        StringBuilder text = new StringBuilder("suitor s;weekly 9;");
        for (char c = 'a'; c <= 'l'; c++) {
            text.append("thing ").append(c).append("x of s worth 1;");
        }
        return text.toString();
    }

    private static void ends() {
        GivenUp x = Check.with(VALLEY);
        Check.refused(x, "ends(2, 0)", x.ends(2, 0), 1);
        Check.refused(x, "ends(-1, 0)", x.ends(-1, 0), 1);
        Check.refused(x, "ends(0, 2)", x.ends(0, 2), 1);
        Check.refused(x, "ends(0, -1)", x.ends(0, -1), 1);
        Check.well(x, "FIRSTS of nothing", x.ends(0, 0), 0);
        Check.well(x, "LASTS of nothing", x.ends(0, 1), 0);
        x.give(0);
        x.give(1);
        x.give(2);
        x.give(7);
        Check.well(x, "FIRSTS: a, h", x.ends(0, 0), 1 + 128);
        Check.well(x, "LASTS: b, c, h", x.ends(0, 1), 2 + 4 + 128);
        x.feign(3);
        Check.well(x, "LASTS without a FEIGNED one", x.ends(0, 1), 2 + 4 + 128);
        x.found(3);
        x.give(3);
        Check.well(x, "LASTS: d, h", x.ends(0, 1), 8 + 128);
        Check.well(x, "of t alone", x.ends(1, 0), 0);
    }

    private static void needs() {
        GivenUp x = Check.with(VALLEY);
        Check.refused(x, "needs(9)", x.needs(9), 1);
        Check.refused(x, "needs(-1)", x.needs(-1), 1);
        int[] due = {0, 1, 1, 7, 16 + 32, 16 + 32, 16 + 32, 0, 0};
        for (int thing = 0; thing < due.length; thing++) {
            Check.well(x, "needs(" + thing + ")", x.needs(thing), due[thing]);
        }
        x.give(0);
        Check.well(x, "GIVEN or not", x.needs(3), 7);
    }

    private static void never() {
        GivenUp x = Check.with(VALLEY);
        Check.refused(x, "never(2)", x.never(2), 1);
        Check.refused(x, "never(-1)", x.never(-1), 1);
        Check.well(x, "the ring and what is AFTER it", x.never(0), 16 + 32 + 64);
        Check.well(x, "none of t", x.never(1), 0);
        GivenUp y = Check.with("suitor s;suitor t;thing a of t worth 1;thing b of t worth 1;thing c of t worth 1;thing d of t worth 1;"
                + "after a b;after b c;after c a;after d a;");
        Check.well(y, "a ring of three and one behind", y.never(1), 15);
        Check.well(y, "but not of s", y.never(0), 0);
    }

    private static void ways() {
        GivenUp x = Check.with(VALLEY);
        Check.refused(x, "ways(2)", x.ways(2), 1);
        Check.refused(x, "ways(-1)", x.ways(-1), 1);
        Check.well(x, "without those that NEVER can", x.ways(0), 10);
        Check.well(x, "of one", x.ways(1), 1);
        x.give(0);
        x.give(7);
        Check.well(x, "from nothing on", x.ways(0), 10);
        GivenUp y = Check.with(twelve());
        Check.well(y, "of twelve", y.ways(0), 479001600L);
        GivenUp z = Check.with("suitor s;");
        Check.well(z, "without THINGS", z.ways(0), 1);
    }

    private static void lies() {
        GivenUp x = Check.with(VALLEY + "says h to n 0;");
        Check.refused(x, "lies(2, 0, 0)", x.lies(2, 0, 0), 1);
        Check.refused(x, "lies(0, 2, 0)", x.lies(0, 2, 0), 1);
        Check.refused(x, "lies(-1, 0, 0)", x.lies(-1, 0, 0), 1);
        Check.refused(x, "lies(0, -1, 0)", x.lies(0, -1, 0), 1);
        Check.refused(x, "lies(0, 0, 2)", x.lies(0, 0, 2), 1);
        Check.refused(x, "lies(0, 0, -1)", x.lies(0, 0, -1), 1);
        Check.well(x, "none", x.lies(0, 0, 0), 0);
        x.give(0);
        x.feign(7);
        x.feign(1);
        Check.well(x, "how many", x.lies(0, 0, 0), 2);
        Check.well(x, "what they SAY to m", x.lies(0, 0, 1), 7);
        Check.well(x, "how many to n", x.lies(0, 1, 0), 2);
        Check.well(x, "what they SAY to n", x.lies(0, 1, 1), 2);
        Check.well(x, "of t", x.lies(1, 0, 1), 0);
    }

    private static void cheats() {
        GivenUp x = Check.with(VALLEY);
        Check.refused(x, "cheats(2)", x.cheats(2), 1);
        Check.refused(x, "cheats(-1)", x.cheats(-1), 1);
        Check.well(x, "none", x.cheats(0), 0);
        x.give(0);
        x.feign(1);
        Check.well(x, "no YES for all that", x.cheats(0), 0);
        x.feign(8);
        Check.well(x, "t by what he FEIGNS", x.cheats(0), 2);
        x.feign(7);
        Check.well(x, "s, too", x.cheats(0), 3);
        Check.well(x, "not where there is a YES without", x.cheats(1), 0);
        x.bar(0, 1);
        Check.well(x, "s has it by what he has GIVEN", x.cheats(0), 2);
        x.wed(1, 1);
        Check.well(x, "no YES of one who has WED", x.cheats(0), 0);
    }
}
