import java.lang.reflect.Method;
import java.util.ArrayList;
import java.util.Arrays;
import java.util.List;
import java.util.function.Supplier;

/** What the tests of sentences ask with. An answer that is not due is told by the line that asked for it. */
class Due {
    /** One call on an object. */
    interface Call {
        Object on(GivenUp x);
    }

    // Added to the least number of a range, these come to a good one again where a number is cut or shifted without care.
    private static final int[] WRAPS = {32, 64, 256, 1 << 16, 1 << 28, 1 << 29, 1 << 30, Integer.MIN_VALUE};

    private static int wrong = 0;
    private static int asked = 0;

    static int wrong() {
        return wrong;
    }

    static int asked() {
        return asked;
    }

    private static void tell(String got) {
        wrong++;
        String line = StackWalker.getInstance().walk(frames -> frames
                .filter(f -> !f.getClassName().equals("Due"))
                .findFirst().map(f -> f.getFileName() + ":" + f.getLineNumber()).orElse("?"));
        System.out.println("  " + line + ": " + got);
    }

    private static void ask(boolean holds, String got) {
        asked++;
        if (!holds) {
            tell(got);
        }
    }

    /** An answer whose STATUS is not looked at. */
    static void same(long got, long want) {
        ask(got == want, "answered " + got + ", due is " + want);
    }

    /** An answer with STATUS 0. */
    static void well(GivenUp x, long got, long want) {
        int status = x.status();
        ask(got == want && status == 0, "answered " + got + " with STATUS " + status + ", due is " + want + " with 0");
    }

    static void well(GivenUp x, boolean got) {
        well(x, got ? 1 : 0, 1);
    }

    static void no(GivenUp x, long got, int want) {
        int status = x.status();
        ask(got == GivenUp.NONE && status == want,
                "answered " + got + " with STATUS " + status + ", due is NONE with " + want);
    }

    static void no(GivenUp x, boolean got, int want) {
        int status = x.status();
        ask(!got && status == want, "answered " + got + " with STATUS " + status + ", due is false with " + want);
    }

    static void fraction(GivenUp x, long top, long bottom) {
        ask(x.top() == top && x.bottom() == bottom,
                "told " + x.top() + " by " + x.bottom() + ", due is " + top + " by " + bottom);
    }

    /** A call that answers NONE or false with a STATUS, and leaves all else as it is on an object without the call. */
    static void refuses(int status, Supplier<GivenUp> made, Call call) {
        refuses(status, made, call, "");
    }

    private static void refuses(int status, Supplier<GivenUp> made, Call call, String told) {
        GivenUp x = made.get();
        Object got = call.on(x);
        int gotStatus = x.status();
        boolean none = got.equals(-1) || got.equals(-1L) || got.equals(false);
        ask(none && gotStatus == status,
                told + " answered " + got + " with STATUS " + gotStatus + ", due is none with " + status);
        List<Long> with = Everything.of(x);
        List<Long> without = Everything.of(made.get());
        ask(with.equals(without), told + " was refused, but changed something: " + with + " was " + without);
    }

    /**
     * Each number of a call at both ends of its range: no STATUS 1; just out of it and far out: STATUS 1, and nothing
     * changes. A range is null where any number will do.
     */
    static void ranges(Supplier<GivenUp> made, String name, int[][] ranges, int... good) {
        Method method = method(name);
        for (int i = 0; i < ranges.length; i++) {
            if (ranges[i] == null) {
                continue;
            }
            int low = ranges[i][0];
            int high = ranges[i][1];
            for (int v : low > high ? new int[0] : new int[] {low, high}) {
                GivenUp x = made.get();
                asCall(method, good, i, v).on(x);
                int status = x.status();
                ask(status != 1, name + " with " + v + " as number " + i + " has STATUS 1");
            }
            for (int v : outOf(low, high)) {
                refuses(1, made, asCall(method, good, i, v), name + " with " + v + " as number " + i);
            }
        }
    }

    /**
     * The same of a call whose numbers are a SUITOR (S), a MAID (M), a THING (T) or of a range ("0..99"), where there
     * is nobody, where there are some, and where there are as many as there may be.
     */
    static void ranges(String name, String... numbers) {
        ranges(GivenUp::new, name, numbers, 0, 0, 0);
        ranges(Made::some, name, numbers, Made.SOME_SUITORS, Made.SOME_MAIDS, Made.SOME_THINGS);
        ranges(Made::most, name, numbers, 4, 4, 12);
    }

    private static void ranges(Supplier<GivenUp> made, String name, String[] numbers, int suitors, int maids, int things) {
        int[][] ranges = new int[numbers.length][];
        int[] good = new int[numbers.length];
        for (int i = 0; i < numbers.length; i++) {
            switch (numbers[i]) {
                case "S": ranges[i] = new int[] {0, suitors - 1}; break;
                case "M": ranges[i] = new int[] {0, maids - 1}; break;
                case "T": ranges[i] = new int[] {0, things - 1}; break;
                default:
                    String[] ends = numbers[i].split("\\.\\.");
                    ranges[i] = new int[] {Integer.parseInt(ends[0]), Integer.parseInt(ends[1])};
                    break;
            }
            good[i] = ranges[i][0];
        }
        for (int i = 0; i < numbers.length; i++) {
            int[][] one = new int[numbers.length][];
            one[i] = ranges[i];
            boolean othersAreThere = true;
            for (int j = 0; j < numbers.length; j++) {
                othersAreThere &= j == i || ranges[j][0] <= ranges[j][1];
            }
            // Where another number can't be good, none of this one's is.
            if (!othersAreThere) {
                one[i] = new int[] {ranges[i][0], ranges[i][0] - 1};
            }
            ranges(made, name, one, good);
        }
    }

    private static List<Integer> outOf(int low, int high) {
        List<Integer> out = new ArrayList<>(List.of(low - 1, high + 1, low - 2, high + 2, Integer.MIN_VALUE, Integer.MAX_VALUE));
        for (int wrap : WRAPS) {
            out.add(low + wrap);
            out.add(-wrap);
        }
        out.removeIf(v -> v >= low && v <= high);
        return out;
    }

    private static Call asCall(Method method, int[] good, int at, int v) {
        Class<?>[] types = method.getParameterTypes();
        Object[] numbers = new Object[types.length];
        for (int i = 0; i < types.length; i++) {
            int number = i == at ? v : good[i];
            numbers[i] = types[i] == long.class ? (Object) (long) number : (Object) number;
        }
        return x -> {
            try {
                return method.invoke(x, numbers);
            } catch (ReflectiveOperationException e) {
                throw new IllegalStateException(method.getName(), e);
            }
        };
    }

    private static Method method(String name) {
        for (Method m : GivenUp.class.getMethods()) {
            if (m.getName().equals(name)) {
                return m;
            }
        }
        throw new IllegalStateException(name);
    }

    // ---- texts

    /** PARTS for so many THINGS of the SUITOR s, named ax, bx .. */
    static String things(int many, int worth) {
        StringBuilder text = new StringBuilder();
        for (int i = 0; i < many; i++) {
            text.append("thing ").append((char) ('a' + i)).append("x of s worth ").append(worth).append(";");
        }
        return text.toString();
    }

    /** Of THINGS named so each but the last is AFTER the next; the eleven AFTERS of twelve. */
    static String eachAfterTheNext() {
        StringBuilder text = new StringBuilder();
        for (char c = 'a'; c < 'l'; c++) {
            text.append("after ").append(c).append("x ").append((char) (c + 1)).append("x;");
        }
        return text.toString();
    }

    static GivenUp with(String valley) {
        GivenUp x = new GivenUp();
        tell(x, valley);
        return x;
    }

    static GivenUp with(String valley, String years) {
        GivenUp x = with(valley);
        tellYears(x, years);
        return x;
    }

    static void tell(GivenUp x, String valley) {
        Check.valley(x, valley);
        ask(x.status() == 0, "the VALLEY " + valley + " has STATUS " + x.status());
    }

    static void tellYears(GivenUp x, String years) {
        Check.years(x, years);
        ask(x.status() == 0, "the YEARS " + years + " have STATUS " + x.status());
    }

    /** A text that is a VALLEY. */
    static GivenUp fine(String valley) {
        GivenUp x = with(valley);
        ask(x.fault(0) == 0 && x.fault(1) == GivenUp.NONE, "fault() tells " + x.fault(0) + " at " + x.fault(1) + " of " + valley);
        return x;
    }

    /** A text that is none, by this FAULT at this place; the VALLEY ahead stays. */
    static void fault(int kind, int place, String valley) {
        GivenUp x = with("suitor old;thing pot of old worth 3;");
        int got = Check.valley(x, valley);
        ask(got == GivenUp.NONE && x.status() == 9, "answered " + got + " with STATUS " + x.status() + " to " + valley);
        ask(x.fault(0) == kind && x.fault(1) == place, "FAULT " + x.fault(0) + " at " + x.fault(1) + ", due is " + kind
                + " at " + place + " of " + valley);
        ask(x.told(0) == 1 && x.told(2) == 1, "the old VALLEY is gone by " + valley);
    }

    static GivenUp fineYears(String valley, int steps, String years) {
        GivenUp x = with(valley);
        int got = Check.years(x, years);
        ask(got == steps && x.status() == 0, "answered " + got + " with STATUS " + x.status() + ", due is " + steps + " to " + years);
        ask(x.fault(0) == 0 && x.fault(1) == GivenUp.NONE, "fault() tells " + x.fault(0) + " at " + x.fault(1) + " of " + years);
        return x;
    }

    /** YEARS that are none, by this FAULT at this place; the YEARS ahead stay. */
    static void yearsFault(int kind, int place, String valley, String years) {
        GivenUp x = with(valley, "week;week;week;");
        int got = Check.years(x, years);
        ask(got == GivenUp.NONE && x.status() == 9, "answered " + got + " with STATUS " + x.status() + " to " + years);
        ask(x.fault(0) == kind && x.fault(1) == place, "FAULT " + x.fault(0) + " at " + x.fault(1) + ", due is " + kind
                + " at " + place + " of " + years);
        ask(x.live(0) == 3, "the old YEARS are gone by " + years);
    }

    /**
     * Whether FAULT 2 is told where a text of TOKENS, each a blank from the next, is cut behind one, has a strange one
     * ahead of one, or is without one.
     */
    static void form(String ahead, String part, String strange, Fault fault) {
        String[] tokens = part.split(" ");
        String text = ahead;
        for (int i = 0; i < tokens.length; i++) {
            fault.at(2, text.length(), text + strange + " " + part);
            // Without the first of two NAMES the second is taken for it.
            if (i + 1 == tokens.length || !isName(tokens[i]) || !isName(tokens[i + 1])) {
                fault.at(2, text.length(), text + rest(tokens, i + 1));
            }
            text += tokens[i];
            if (i < tokens.length - 1) {
                fault.at(2, text.length(), text);
                fault.at(2, text.length() + 1, text + " ");
            }
            text += " ";
        }
    }

    /** Asks for a FAULT of a text at a place. */
    interface Fault {
        void at(int kind, int place, String text);
    }

    private static boolean isName(String token) {
        return token.matches("[a-z]");
    }

    private static String rest(String[] tokens, int from) {
        return String.join(" ", Arrays.asList(tokens).subList(from, tokens.length));
    }

    /** Takes the object to a WEEK within few calls, by YEARS that stay there; the tape must be empty. */
    static GivenUp toWeek(GivenUp x, int week) {
        int left = week - x.told(6);
        while (left >= 3) {
            int rounds = Math.min(99, left / 3);
            tellYears(x, "loop " + rounds + ";week;week;week;end;");
            x.live(0);
            left -= 3 * rounds;
        }
        for (; left > 0; left--) {
            x.week();
        }
        same(x.told(6), week);
        return x;
    }

    /** A TRAY of 64 bits with these numbers. */
    static GivenUp row(GivenUp x, int tray, long... numbers) {
        x.tray(tray, 3, numbers.length);
        for (int i = 0; i < numbers.length; i++) {
            x.write(tray, i, numbers[i]);
        }
        return x;
    }

    static void give(GivenUp x, int... things) {
        for (int thing : things) {
            x.give(thing);
            ask(x.status() == 0, "THING " + thing + " can't be GIVEN: STATUS " + x.status());
        }
    }
}
