/** Objects that the tests of sentences begin with: one of which all is something, one with as much as there may be. */
final class Made {
    static final int SOME_SUITORS = 3;
    static final int SOME_MAIDS = 3;
    static final int SOME_THINGS = 7;
    static final String VALLEY = "suitor s age 30 cows 9;suitor t age 40 cows 1;suitor u cows 5;maid m bar 10 rises 1 mother 2;"
            + "maid n bar 0;maid o bar 9;thing a of s worth 4;thing b of s worth 5;thing c of s worth 6;thing d of t worth 7;"
            + "thing e of t worth 8;thing f of u worth 3;thing g of u worth 2;says b to m 9;after b a;after f g;after g f;"
            + "likes s m 3;likes t n 2;weekly 3;fair 2;";

    private Made() {
    }

    /** TRAYS (2 is MISSING), tape, FAULT, FRACTION, MARKS, YEARS, a life, what is GIVEN and FEIGNED, a couple. */
    static GivenUp some() {
        GivenUp x = Due.with(VALLEY, "any s;week;any t;when bare t;stop;end;");
        Due.row(x, 0, 1, -1, 0);
        x.tray(1, 0, 3);
        x.write(1, 2, -7);
        Due.row(x, 3, 2, 2, 2, 2);
        x.mark();
        Due.give(x, 0);
        x.week();
        Due.give(x, 1);
        x.feign(3);
        x.wed(2, 1);
        x.mark();
        x.live(5);
        x.share(0, 0);
        Check.years(x, "any zzz;");
        x.feed(0x66616972, 0x20333b20, 0x20202020, 0x20202020, 0x20202020);
        Due.same(x.fault(0), 3);
        return x;
    }

    static GivenUp threeMarks() {
        GivenUp x = some();
        x.mark();
        return x;
    }

    /** Four SUITORS, four MAIDS, twelve THINGS, twelve AFTERS, LIKES of all for all. */
    static String mostText() {
        StringBuilder text = new StringBuilder();
        String suitors = "abcd";
        String maids = "efgh";
        String things = "ijklmnopqrst";
        for (int i = 0; i < 4; i++) {
            text.append("suitor ").append(suitors.charAt(i)).append(" age ").append(50 + i % 2).append(" cows ").append(90 + i).append(";");
            text.append("maid ").append(maids.charAt(i)).append(" bar ").append(9 + i).append(" rises ").append(i + 1)
                    .append(" mother ").append(6 + i).append(";");
        }
        for (int i = 0; i < 12; i++) {
            text.append("thing ").append(things.charAt(i)).append(" of ").append(suitors.charAt(i % 4)).append(" worth ").append(5 + i).append(";");
        }
        // Of each SUITOR the second is AFTER the first, of the last two the third AFTER both; of the first two they are a ring.
        for (String after : new String[] {"m i", "n j", "o k", "p l", "s k", "s o", "t l", "t p", "q m", "m q", "r n", "n r"}) {
            text.append("after ").append(after).append(";");
        }
        for (int i = 0; i < 16; i++) {
            text.append("likes ").append(suitors.charAt(i / 4)).append(" ").append(maids.charAt(i % 4)).append(" ").append(11 + i).append(";");
        }
        return text.append("says t to h 9;says i to e 7;weekly 3;fair 3;").toString();
    }

    static GivenUp most() {
        GivenUp x = Due.with(mostText(), "any a;any d;week;");
        x.mark();
        Due.give(x, 0, 3, 7);
        x.feign(2);
        x.live(9);
        x.wed(3, 3);
        Due.same(x.told(7), 1);
        return x;
    }
}
