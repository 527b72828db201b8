import java.nio.charset.StandardCharsets;

/** What the tests share: feeding texts, and counting the answers that are not as due. */
final class Check {
    private static int wrong = 0;
    private static int asked = 0;

    private Check() {
    }

    static void due(String call, long got, long want) {
        asked++;
        if (got != want) {
            wrong++;
            System.out.println(call + " answered " + got + ", due is " + want);
        }
    }

    static void due(String call, boolean got, boolean want) {
        due(call, got ? 1 : 0, want ? 1 : 0);
    }

    /** An answer with STATUS 0. */
    static void well(GivenUp x, String call, long got, long want) {
        due(call, got, want);
        due(call + ", its STATUS", x.status(), 0);
    }

    static void well(GivenUp x, String call, boolean got) {
        due(call, got, true);
        due(call + ", its STATUS", x.status(), 0);
    }

    static void refused(GivenUp x, String call, long got, int status) {
        due(call, got, GivenUp.NONE);
        due(call + ", its STATUS", x.status(), status);
    }

    static void refused(GivenUp x, String call, boolean got, int status) {
        due(call, got, false);
        due(call + ", its STATUS", x.status(), status);
    }

    static void fraction(GivenUp x, String call, long top, long bottom) {
        due(call + ", its top", x.top(), top);
        due(call + ", its bottom", x.bottom(), bottom);
    }

    /** Feeds a text, with bytes of 0 behind it till there are twenty. */
    static int feed(GivenUp x, String text) {
        byte[] bytes = text.getBytes(StandardCharsets.ISO_8859_1);
        int[] five = new int[5];
        for (int i = 0; i < bytes.length; i += 20) {
            for (int j = 0; j < 20; j++) {
                int b = i + j < bytes.length ? bytes[i + j] & 255 : 0;
                five[j / 4] = five[j / 4] << 8 | b;
            }
            x.feed(five[0], five[1], five[2], five[3], five[4]);
        }
        return bytes.length;
    }

    static int valley(GivenUp x, String text) {
        return x.valley(feed(x, text));
    }

    static int years(GivenUp x, String text) {
        return x.years(feed(x, text));
    }

    static GivenUp with(String valley) {
        GivenUp x = new GivenUp();
        valley(x, valley);
        due("the valley " + valley, x.status(), 0);
        return x;
    }

    static GivenUp with(String valley, String years) {
        GivenUp x = with(valley);
        years(x, years);
        due("the years " + years, x.status(), 0);
        return x;
    }

    static void fault(String valley, int kind, int place) {
        GivenUp x = with("suitor old;thing pot of old worth 3;");
        refused(x, "valley " + valley, valley(x, valley), 9);
        due("fault(0) of " + valley, x.fault(0), kind);
        due("fault(1) of " + valley, x.fault(1), place);
        due("the old valley behind " + valley, x.told(2), 1);
    }

    static void fine(String valley) {
        GivenUp x = new GivenUp();
        valley(x, valley);
        due("STATUS of valley " + valley, x.status(), 0);
        due("fault(0) of " + valley, x.fault(0), 0);
        due("fault(1) of " + valley, x.fault(1), GivenUp.NONE);
    }

    static void end(String test) {
        System.out.println(test + ": " + asked + " answers, " + wrong + " not as due");
        if (wrong > 0) {
            System.exit(1);
        }
    }
}
