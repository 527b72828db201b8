import java.lang.reflect.InvocationTargetException;
import java.lang.reflect.Method;
import java.lang.reflect.Modifier;
import java.nio.charset.StandardCharsets;
import java.util.ArrayList;
import java.util.Comparator;
import java.util.List;
import java.util.Map;
import java.util.Random;

/** Long runs of random calls, each answered by GivenUp and by the plain model alike. */
public final class AgainstPlainModelTest {
    // What later calls answer is free.
    private static final int CALLS = 512;
    // 45 times feed, the VALLEY or YEARS, the FAULT by two, what may be left on the tape; each with its STATUS.
    private static final int CALLS_OF_A_TEXT = 98;
    // A call, its STATUS, the FRACTION by two; and the FRACTION once more at the end.
    private static final int CALLS_OF_ANOTHER = 6;

    private final Random random;
    private final Texts texts;
    private final GivenUp ours = new GivenUp();
    private final PlainModel plain = new PlainModel();
    private final StringBuilder told = new StringBuilder();
    private int calls = 0;
    // How many SUITORS, MAIDS, THINGS there are now.
    private int[] counts = new int[3];
    private static final List<Method> METHODS = methods();

    private AgainstPlainModelTest(long seed) {
        random = new Random(seed);
        texts = new Texts(random);
    }

    public static void main(String[] args) throws Exception {
        int runs = args.length > 0 ? Integer.parseInt(args[0]) : 1000;
        long first = args.length > 1 ? Long.parseLong(args[1]) : 1;
        for (long seed = first; seed < first + runs; seed++) {
            AgainstPlainModelTest run = new AgainstPlainModelTest(seed);
            String wrong = run.run();
            if (wrong != null) {
                System.out.println("seed " + seed + ": " + wrong);
                System.out.println(run.told);
                System.exit(1);
            }
        }
        System.out.println(runs + " runs answered alike");
    }

    private static List<Method> methods() {
        List<Method> all = new ArrayList<>();
        for (Method m : GivenUp.class.getDeclaredMethods()) {
            if (Modifier.isPublic(m.getModifiers())) {
                all.add(m);
            }
        }
        all.sort(Comparator.comparing(Method::getName));
        return all;
    }

    private static Method method(String name) {
        for (Method m : METHODS) {
            if (m.getName().equals(name)) {
                return m;
            }
        }
        throw new IllegalStateException(name);
    }

    private String run() throws Exception {
        String wrong = null;
        while (wrong == null && hasLeft(CALLS_OF_ANOTHER)) {
            int kind = hasLeft(CALLS_OF_A_TEXT + CALLS_OF_ANOTHER) ? random.nextInt(100) : 99;
            if (calls == 0 || kind < 1) {
                String text = texts.valley();
                wrong = text("valley", random.nextInt(100) < 12 ? texts.spoil(text) : text);
            } else if (kind < 3) {
                String text = texts.years();
                wrong = text("years", random.nextInt(100) < 25 ? texts.spoil(text) : text);
            } else {
                wrong = one();
            }
        }
        return wrong == null ? fraction("the run") : wrong;
    }

    private boolean hasLeft(int many) {
        return calls + many <= CALLS;
    }

    private String text(String name, String text) throws Exception {
        byte[] bytes = text.getBytes(StandardCharsets.ISO_8859_1);
        if (bytes.length > 900) {
            return null;
        }
        told.append("    \"").append(text).append("\"\n");
        String wrong = null;
        for (int i = 0; i < bytes.length && wrong == null; i += 20) {
            Object[] five = new Object[5];
            for (int j = 0; j < 5; j++) {
                int v = 0;
                for (int k = 0; k < 4; k++) {
                    int at = i + 4 * j + k;
                    v = v << 8 | (at < bytes.length ? bytes[at] & 255 : 0);
                }
                five[j] = v;
            }
            wrong = call("feed", five);
        }
        if (wrong == null) {
            wrong = call(name, bytes.length);
        }
        if (wrong == null && plain.status() == 1) {
            // YEARS that are too long stay on the tape; as a valley they are taken off it.
            wrong = call("valley", bytes.length);
        }
        for (int what = 0; what < 2 && wrong == null; what++) {
            wrong = call("fault", what);
        }
        return wrong;
    }

    // Of which sort the first numbers of a call are: SUITORS, MAIDS, THINGS.
    private static final Map<String, String> WHO = Map.ofEntries(
            Map.entry("suitor", "S"), Map.entry("maid", "M"), Map.entry("thing", "T"), Map.entry("says", "TM"),
            Map.entry("likes", "SM"), Map.entry("give", "T"), Map.entry("feign", "T"), Map.entry("found", "T"),
            Map.entry("may", "S"), Map.entry("heard", "SM"), Map.entry("yes", "SM"), Map.entry("lacks", "SM"),
            Map.entry("wed", "SM"), Map.entry("back", "T"), Map.entry("bare", "S"), Map.entry("wouldHave", "M"),
            Map.entry("proud", "M"), Map.entry("dearest", "SM"), Map.entry("share", "SM"), Map.entry("like", "SM"),
            Map.entry("bar", "M"), Map.entry("least", "SM"), Map.entry("leastSet", "SM"), Map.entry("fewest", "SM"),
            Map.entry("soonest", "SM"), Map.entry("most", "SM"), Map.entry("rivals", "SSM"), Map.entry("cheapest", "S"),
            Map.entry("within", "S"), Map.entry("asked", "S"), Map.entry("orders", "S"), Map.entry("ends", "S"),
            Map.entry("needs", "T"), Map.entry("never", "S"), Map.entry("ways", "S"), Map.entry("lies", "SM"),
            Map.entry("cheats", "M"), Map.entry("mean", "S"));

    private static final String[] OFTEN = {"give", "give", "give", "feign", "week", "week", "wed", "wed", "back", "found",
        "live", "mean", "mark", "undo", "like", "bar", "write", "bolts", "keep", "least", "village", "orders", "tray"};

    private String one() throws Exception {
        Method m = random.nextInt(100) < 35 ? method(OFTEN[random.nextInt(OFTEN.length)])
                : METHODS.get(random.nextInt(METHODS.size()));
        if (m.getName().equals("valley") || m.getName().equals("years") || m.getName().equals("feed")) {
            return null;
        }
        if (m.getName().equals("week") && random.nextInt(200) == 0) {
            return manyWeeks();
        }
        Class<?>[] types = m.getParameterTypes();
        Object[] args = new Object[types.length];
        for (int i = 0; i < types.length; i++) {
            args[i] = types[i] == long.class ? (Object) numberToWrite() : (Object) argument(m.getName(), i);
        }
        return call(m.getName(), args);
    }

    /** To WEEK 999, by lives that are some 300 WEEKS each. */
    private String manyWeeks() throws Exception {
        if (!hasLeft(CALLS_OF_A_TEXT + CALLS_OF_ANOTHER)) {
            return null;
        }
        String wrong = text("years", "loop 99;week;week;week;end;");
        for (int i = 0; i < 4 && wrong == null; i++) {
            wrong = call("live", i);
        }
        return wrong != null ? wrong : call("week");
    }

    private long numberToWrite() {
        return random.nextInt(10) == 0 ? random.nextLong() : random.nextInt(5) - 1;
    }

    private int argument(String name, int at) {
        int wild = random.nextInt(100);
        if (wild < 2) {
            return random.nextBoolean() ? Integer.MAX_VALUE : Integer.MIN_VALUE;
        }
        if (wild < 5) {
            return random.nextInt(2000) - 1000;
        }
        boolean weeks = at == 2 && List.of("least", "leastSet", "fewest", "most").contains(name)
                || at == 1 && List.of("cheapest", "within").contains(name)
                || at == 0 && List.of("village", "villager").contains(name);
        if (weeks) {
            return random.nextInt(4) == 0 ? random.nextInt(102) - 1 : random.nextInt(6);
        }
        boolean seed = name.equals("live") || name.equals("mean") && at == 1;
        if (seed) {
            return random.nextInt(20) == 0 ? 9970 + random.nextInt(40) : random.nextInt(10000);
        }
        if (name.equals("mean") && at == 2) {
            return random.nextInt(22);
        }
        if (name.equals("bar") && at == 1) {
            return random.nextInt(5) == 0 ? random.nextInt(1002) - 1 : random.nextInt(80);
        }
        if (name.equals("like") && at == 2) {
            return random.nextInt(10) == 0 ? random.nextInt(102) - 1 : random.nextInt(5);
        }
        if (random.nextInt(20) > 0 && WHO.containsKey(name) && at < WHO.get(name).length()) {
            int many = counts["SMT".indexOf(WHO.get(name).charAt(at))];
            return many == 0 ? 0 : random.nextInt(many);
        }
        boolean thing = at == 0 && List.of("give", "feign", "found", "back", "thing", "says", "needs").contains(name);
        if (thing) {
            return random.nextInt(14) - 1;
        }
        if (name.equals("tray") && at == 2) {
            return random.nextInt(5) == 0 ? random.nextInt(63) - 1 : random.nextInt(7);
        }
        if (name.equals("told")) {
            return random.nextInt(12) - 1;
        }
        if (name.equals("suitor") && at == 1) {
            return random.nextInt(9) - 1;
        }
        return random.nextInt(10) == 0 ? random.nextInt(8) - 1 : random.nextInt(4);
    }

    private String call(String name, Object... args) throws Exception {
        Method m = method(name);
        calls += 2;
        Object want = PlainModel.class.getMethod(name, m.getParameterTypes()).invoke(plain, args);
        Object got;
        try {
            got = m.invoke(ours, args);
        } catch (InvocationTargetException e) {
            got = "throws " + e.getCause();
        }
        counts = plain.counts();
        String call = name + java.util.Arrays.toString(args);
        told.append("    ").append(call).append(" ").append(want).append("\n");
        if (!want.equals(got)) {
            return call + " answered " + got + ", due is " + want;
        }
        int status = ours.status();
        if (plain.status() != status) {
            return call + " has STATUS " + status + ", due is " + plain.status();
        }
        return name.equals("share") || name.equals("mean") ? fraction(call) : null;
    }

    private String fraction(String call) {
        calls += 2;
        long top = ours.top();
        long bottom = ours.bottom();
        return plain.top() == top && plain.bottom() == bottom ? null
                : call + " tells " + top + " by " + bottom + ", due is " + plain.top() + " by " + plain.bottom();
    }
}
