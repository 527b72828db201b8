import java.lang.reflect.InvocationTargetException;
import java.lang.reflect.Method;
import java.lang.reflect.Modifier;
import java.util.ArrayList;
import java.util.Comparator;
import java.util.List;
import java.util.Random;

/** Any arguments in any state: no call throws, and one with another STATUS than 0 gives NONE or false. */
public final class NeverThrowsTest {
    private static final int[] EDGES = {Integer.MIN_VALUE, -901, -301, -61, -2, -1, 0, 1, 2, 3, 4, 5, 11, 12, 19, 20, 21, 59,
        60, 61, 98, 99, 100, 300, 301, 899, 900, 901, 998, 999, 1000, 9999, 10000, Integer.MAX_VALUE};
    private static final String NO_STATUS = " status top bottom feed fault ";
    private static int wrong = 0;

    public static void main(String[] args) throws Exception {
        List<Method> methods = new ArrayList<>();
        for (Method m : GivenUp.class.getDeclaredMethods()) {
            if (Modifier.isPublic(m.getModifiers())) {
                methods.add(m);
            }
        }
        methods.sort(Comparator.comparing(Method::getName));
        Check.due("how many methods the face has", methods.size(), 62);
        for (long seed = 1; seed <= 800; seed++) {
            run(methods, new Random(seed), seed);
        }
        Check.due("calls that threw or answered beside their STATUS", wrong, 0);
        Check.end("NeverThrowsTest");
    }

    private static void run(List<Method> methods, Random random, long seed) throws Exception {
        GivenUp x = new GivenUp();
        Texts texts = new Texts(random);
        // What is answered behind 512 calls is free; each that is asked here is four with STATUS and FRACTION.
        for (int calls = 0; calls < 508; calls += 4) {
            if (calls < 380 && random.nextInt(20) == 0) {
                String valley = texts.valley();
                String years = texts.years();
                Check.valley(x, valley);
                Check.years(x, years);
                calls += valley.length() / 20 + years.length() / 20 + 4;
            }
            Method m = methods.get(random.nextInt(methods.size()));
            Class<?>[] types = m.getParameterTypes();
            Object[] args = new Object[types.length];
            boolean wild = random.nextInt(4) == 0;
            for (int i = 0; i < types.length; i++) {
                int edge = wild ? EDGES[random.nextInt(EDGES.length)] : random.nextInt(4);
                args[i] = types[i] == long.class ? (Object) ((long) edge << random.nextInt(33)) : (Object) edge;
            }
            ask(x, m, args, seed);
        }
    }

    private static void ask(GivenUp x, Method m, Object[] args, long seed) throws Exception {
        try {
            Object got = m.invoke(x, args);
            int status = x.status();
            boolean none = got.equals(-1) || got.equals(-1L) || got.equals(false);
            if (!NO_STATUS.contains(" " + m.getName() + " ") && status != 0 && !none) {
                say(seed, m, "answered " + got + " with STATUS " + status);
            }
            if (x.bottom() <= 0 || status < 0 || status > 9) {
                say(seed, m, "left a FRACTION or a STATUS that can't be");
            }
        } catch (InvocationTargetException e) {
            say(seed, m, "threw " + e.getCause());
        }
    }

    private static void say(long seed, Method m, String what) {
        wrong++;
        System.out.println("seed " + seed + ": " + m.getName() + " " + what);
    }
}
