import java.util.ArrayDeque;
import java.util.ArrayList;
import java.util.Arrays;
import java.util.HashMap;
import java.util.HashSet;
import java.util.List;
import java.util.Map;
import java.util.Set;
import java.util.TreeSet;
import java.util.regex.Matcher;
import java.util.regex.Pattern;

/**
 * The document once more, by the plainest means and without a thought of cost: it searches, simulates and
 * recurses where GivenUp counts, so that the two are unlikely to share a mistake.
 */
public final class PlainModel {
    private static final Set<String> OWN = new HashSet<>(Arrays.asList(("suitor age cows maid bar rises mother thing"
            + " of worth says to after likes weekly fair give any week wed with back feign when heard yes bare loop"
            + " end stop").split(" ")));

    private static final class Fault extends RuntimeException {
        final int kind;
        final int place;

        Fault(int kind, int place) {
            super(null, null, false, false);
            this.kind = kind;
            this.place = place;
        }
    }

    /** A call with another STATUS than 0. */
    private static final class Refused extends RuntimeException {
        final int status;

        Refused(int status) {
            super(null, null, false, false);
            this.status = status;
        }
    }

    private static final class Suitor {
        String name;
        int age = 20;
        int cows = 0;
        int thisWeek = 0;
        int maid = -1;
        Map<Integer, Integer> likes = new HashMap<>();
    }

    private static final class Maid {
        String name;
        int bar;
        int rises = 0;
        int mother = 0;
        int suitor = -1;
    }

    private static final class Thing {
        String name;
        int of;
        int worth;
        Map<Integer, Integer> says = new HashMap<>();
        TreeSet<Integer> after = new TreeSet<>();
        char state = 'h';
    }

    private static final class Step {
        String word;
        String test;
        int a;
        int b;
        String sign;
        int number;
        List<Step> inner;
    }

    private static final class World {
        List<Suitor> suitors = new ArrayList<>();
        List<Maid> maids = new ArrayList<>();
        List<Thing> things = new ArrayList<>();
        int afters = 0;
        int weekly = 2;
        int fair = 4;
        int week = 0;
        // Never changed once it is read, so copies may share it.
        List<Step> years = null;

        World copy() {
            World c = new World();
            for (Suitor s : suitors) {
                Suitor t = new Suitor();
                t.name = s.name;
                t.age = s.age;
                t.cows = s.cows;
                t.thisWeek = s.thisWeek;
                t.maid = s.maid;
                t.likes = new HashMap<>(s.likes);
                c.suitors.add(t);
            }
            for (Maid m : maids) {
                Maid t = new Maid();
                t.name = m.name;
                t.bar = m.bar;
                t.rises = m.rises;
                t.mother = m.mother;
                t.suitor = m.suitor;
                c.maids.add(t);
            }
            for (Thing x : things) {
                Thing t = new Thing();
                t.name = x.name;
                t.of = x.of;
                t.worth = x.worth;
                t.says = new HashMap<>(x.says);
                t.after = new TreeSet<>(x.after);
                t.state = x.state;
                c.things.add(t);
            }
            c.afters = afters;
            c.weekly = weekly;
            c.fair = fair;
            c.week = week;
            c.years = years;
            return c;
        }

        int says(int thing, int maid) {
            Thing t = things.get(thing);
            return t.says.getOrDefault(maid, t.worth);
        }

        int heard(int suitor, int maid) {
            int sum = 0;
            for (int t = 0; t < things.size(); t++) {
                if (things.get(t).of == suitor && things.get(t).state != 'h') {
                    sum += says(t, maid);
                }
            }
            return sum;
        }

        int barIn(int maid, int week) {
            return maids.get(maid).bar + maids.get(maid).rises * week;
        }

        boolean yes(int suitor, int maid) {
            return suitors.get(suitor).maid < 0 && maids.get(maid).suitor < 0
                    && heard(suitor, maid) >= barIn(maid, week);
        }

        boolean canGive(int thing) {
            Thing t = things.get(thing);
            Suitor s = suitors.get(t.of);
            if (t.state != 'h' || s.maid >= 0 || s.thisWeek >= weekly) {
                return false;
            }
            for (int u : t.after) {
                if (things.get(u).state != 'g') {
                    return false;
                }
            }
            return true;
        }

        boolean give(int thing, char state) {
            if (!canGive(thing)) {
                return false;
            }
            things.get(thing).state = state;
            suitors.get(things.get(thing).of).thisWeek++;
            return true;
        }

        boolean back(int thing) {
            Thing t = things.get(thing);
            Suitor s = suitors.get(t.of);
            int price = t.worth == 0 ? 1 : (t.worth + 9) / 10;
            if (week == 0 || week % fair != 0 || s.maid >= 0 || t.state != 'g' || s.cows < price) {
                return false;
            }
            for (Thing u : things) {
                if (u.state == 'g' && u.after.contains(thing)) {
                    return false;
                }
            }
            t.state = 'h';
            s.cows -= price;
            return true;
        }

        boolean wed(int suitor, int maid) {
            Suitor s = suitors.get(suitor);
            Maid m = maids.get(maid);
            if (!yes(suitor, maid) || s.cows < m.mother) {
                return false;
            }
            s.cows -= m.mother;
            s.maid = maid;
            m.suitor = suitor;
            return true;
        }

        boolean nextWeek() {
            if (week >= 999) {
                return false;
            }
            week++;
            for (Suitor s : suitors) {
                s.thisWeek = 0;
            }
            return true;
        }

        int worth(int suitor, boolean given) {
            int sum = 0;
            for (Thing t : things) {
                if (t.of == suitor && (t.state == 'g') == given) {
                    sum += t.worth;
                }
            }
            return sum;
        }

        boolean bare(int suitor) {
            for (Thing t : things) {
                if (t.of == suitor && t.state != 'g') {
                    return false;
                }
            }
            return true;
        }

        /** 1 for THING 0 .. */
        int set(int suitor, String states) {
            int set = 0;
            for (int t = 0; t < things.size(); t++) {
                Thing x = things.get(t);
                if ((suitor < 0 || x.of == suitor) && states.indexOf(x.state) >= 0) {
                    set |= 1 << t;
                }
            }
            return set;
        }

        TreeSet<Integer> needs(int thing) {
            TreeSet<Integer> all = new TreeSet<>();
            ArrayDeque<Integer> open = new ArrayDeque<>(things.get(thing).after);
            while (!open.isEmpty()) {
                int t = open.poll();
                if (all.add(t)) {
                    open.addAll(things.get(t).after);
                }
            }
            return all;
        }

        /** Gives on and on from nothing: what is never reached can NEVER be GIVEN. */
        int neverSet() {
            Set<Integer> reached = new HashSet<>();
            boolean more = true;
            while (more) {
                more = false;
                for (int t = 0; t < things.size(); t++) {
                    if (!reached.contains(t) && reached.containsAll(things.get(t).after)) {
                        reached.add(t);
                        more = true;
                    }
                }
            }
            int set = 0;
            for (int t = 0; t < things.size(); t++) {
                if (!reached.contains(t)) {
                    set |= 1 << t;
                }
            }
            return set;
        }

        int rank(int maid, int a, int b) {
            if (heard(a, maid) != heard(b, maid)) {
                return heard(a, maid) > heard(b, maid) ? a : b;
            }
            if (suitors.get(a).age != suitors.get(b).age) {
                return suitors.get(a).age > suitors.get(b).age ? a : b;
            }
            return Math.min(a, b);
        }
    }

    private World world = new World();
    private final ArrayDeque<World> marks = new ArrayDeque<>();
    private final long[][] trays = new long[4][];
    private final int[] sorts = new int[4];
    private StringBuilder tape = new StringBuilder();
    private int status = 0;
    private long top = 0;
    private long bottom = 1;
    private int faultKind = -1;
    private int faultPlace = -1;
    private int[] lived = null;

    // Whatever is asked runs through one of these, so that STATUS is set in one place.
    private interface Asked {
        long answer();
    }

    private long ask(Asked asked) {
        try {
            long v = asked.answer();
            status = 0;
            return v;
        } catch (Refused r) {
            status = r.status;
            return -1;
        }
    }

    private int askInt(Asked asked) {
        return (int) ask(asked);
    }

    private boolean askIf(Asked asked) {
        return ask(asked) == 1;
    }

    private static void need(boolean holds, int otherwise) {
        if (!holds) {
            throw new Refused(otherwise);
        }
    }

    private void needSuitor(int s) {
        need(s >= 0 && s < world.suitors.size(), 1);
    }

    private void needMaid(int m) {
        need(m >= 0 && m < world.maids.size(), 1);
    }

    private void needThing(int t) {
        need(t >= 0 && t < world.things.size(), 1);
    }

    private static void needIn(int v, int low, int high) {
        need(v >= low && v <= high, 1);
    }

    public int status() {
        return status;
    }

    public long top() {
        return top;
    }

    public long bottom() {
        return bottom;
    }

    public boolean tray(int tray, int sort, int many) {
        return askIf(() -> {
            needIn(tray, 0, 3);
            needIn(sort, 0, 3);
            needIn(many, 0, 60);
            trays[tray] = new long[many];
            sorts[tray] = sort;
            return 1;
        });
    }

    private void put(int tray, int place, long v) {
        int unused = new int[] {56, 48, 32, 0}[sorts[tray]];
        trays[tray][place] = v << unused >> unused;
    }

    private void needPlace(int tray, int place) {
        needIn(tray, 0, 3);
        need(trays[tray] != null, 2);
        need(place >= 0 && place < trays[tray].length, 3);
    }

    public boolean write(int tray, int place, long v) {
        return askIf(() -> {
            needPlace(tray, place);
            put(tray, place, v);
            return 1;
        });
    }

    public long read(int tray, int place) {
        return ask(() -> {
            needPlace(tray, place);
            return trays[tray][place];
        });
    }

    public boolean pour(int from, int place, int to, int at, int many) {
        return askIf(() -> {
            needIn(from, 0, 3);
            needIn(to, 0, 3);
            need(place >= 0 && at >= 0 && many >= 0, 1);
            need(trays[from] != null && trays[to] != null, 2);
            need(sorts[from] == sorts[to], 8);
            need((long) place + many <= trays[from].length && (long) at + many <= trays[to].length, 3);
            long[] old = trays[from].clone();
            for (int i = 0; i < many; i++) {
                trays[to][at + i] = old[place + i];
            }
            return 1;
        });
    }

    public int feed(int a, int b, int c, int d, int e) {
        if (tape.length() + 20 > 900) {
            return -1;
        }
        for (int v : new int[] {a, b, c, d, e}) {
            for (int i = 3; i >= 0; i--) {
                tape.append((char) (v >> 8 * i & 255));
            }
        }
        return tape.length();
    }

    private String cut(int n, int most) {
        need(n >= 0 && n <= tape.length() && n <= most, 1);
        String text = tape.substring(0, n);
        tape = new StringBuilder();
        return text;
    }

    private void noteFault(int kind, int place) {
        faultKind = kind;
        faultPlace = place;
    }

    public int valley(int n) {
        return askInt(() -> {
            String text = cut(n, 900);
            try {
                world = new Parser(text).valley();
                noteFault(0, -1);
                return world.things.size();
            } catch (Fault f) {
                noteFault(f.kind, f.place);
                throw new Refused(9);
            }
        });
    }

    public int years(int n) {
        return askInt(() -> {
            String text = cut(n, 300);
            try {
                Parser p = new Parser(text);
                world.years = p.years(world);
                noteFault(0, -1);
                return p.steps;
            } catch (Fault f) {
                noteFault(f.kind, f.place);
                throw new Refused(9);
            }
        });
    }

    public int fault(int what) {
        return what == 0 ? faultKind : what == 1 ? faultPlace : -1;
    }

    /** All TOKENS are found at first; a FAULT comes up when the reading comes to it. */
    private static final class Parser {
        private static final Pattern TOKEN = Pattern.compile("[a-z]+|[0-9]+|[;<>=]|[ \n]+|(?s:.)");
        private final List<String> words = new ArrayList<>();
        private final List<Integer> places = new ArrayList<>();
        private int at = 0;
        int steps = 0;

        Parser(String text) {
            Matcher m = TOKEN.matcher(text);
            while (m.find()) {
                if (!m.group().trim().isEmpty() || "\n ".indexOf(m.group().charAt(0)) < 0) {
                    words.add(m.group());
                    places.add(m.start());
                }
            }
            words.add("");
            places.add(text.length());
        }

        private String here() {
            return words.get(at);
        }

        private Fault fault(int kind) {
            return new Fault(kind, places.get(at));
        }

        private void needFault(boolean holds, int kind) {
            if (!holds) {
                String w = here();
                boolean token = w.isEmpty() || w.matches("[a-z]+|[0-9]{1,4}|[;<>=]");
                throw fault(token ? kind : 1);
            }
        }

        private void expect(String word) {
            needFault(here().equals(word), 2);
            at++;
        }

        private boolean have(String word) {
            if (here().equals(word)) {
                at++;
                return true;
            }
            return false;
        }

        private int number(int low, int high) {
            needFault(here().matches("[0-9]{1,4}"), 2);
            int v = Integer.parseInt(here());
            needFault(v >= low && v <= high, 4);
            at++;
            return v;
        }

        private String name() {
            needFault(here().matches("[a-z]{1,8}") && !OWN.contains(here()), 2);
            return here();
        }

        private String fresh(World w) {
            String n = name();
            needFault(suitor(w, n) < 0 && maid(w, n) < 0 && thing(w, n) < 0, 3);
            at++;
            return n;
        }

        private static int suitor(World w, String n) {
            for (int i = 0; i < w.suitors.size(); i++) {
                if (w.suitors.get(i).name.equals(n)) {
                    return i;
                }
            }
            return -1;
        }

        private static int maid(World w, String n) {
            for (int i = 0; i < w.maids.size(); i++) {
                if (w.maids.get(i).name.equals(n)) {
                    return i;
                }
            }
            return -1;
        }

        private static int thing(World w, String n) {
            for (int i = 0; i < w.things.size(); i++) {
                if (w.things.get(i).name.equals(n)) {
                    return i;
                }
            }
            return -1;
        }

        private int known(World w, char kind) {
            String n = name();
            int i = kind == 's' ? suitor(w, n) : kind == 'm' ? maid(w, n) : thing(w, n);
            needFault(i >= 0, 3);
            at++;
            return i;
        }

        World valley() {
            World w = new World();
            boolean weekly = false;
            boolean fair = false;
            while (at < words.size() - 1) {
                String part = here();
                if (part.equals("suitor")) {
                    needFault(w.suitors.size() < 4, 6);
                    at++;
                    Suitor s = new Suitor();
                    s.name = fresh(w);
                    s.age = have("age") ? number(0, 99) : 20;
                    s.cows = have("cows") ? number(0, 99) : 0;
                    expect(";");
                    w.suitors.add(s);
                } else if (part.equals("maid")) {
                    needFault(w.maids.size() < 4, 6);
                    at++;
                    Maid m = new Maid();
                    m.name = fresh(w);
                    expect("bar");
                    m.bar = number(0, 999);
                    m.rises = have("rises") ? number(0, 20) : 0;
                    m.mother = have("mother") ? number(0, 9) : 0;
                    expect(";");
                    w.maids.add(m);
                } else if (part.equals("thing")) {
                    needFault(w.things.size() < 12, 6);
                    at++;
                    Thing t = new Thing();
                    t.name = fresh(w);
                    expect("of");
                    t.of = known(w, 's');
                    expect("worth");
                    t.worth = number(0, 99);
                    expect(";");
                    w.things.add(t);
                } else if (part.equals("says")) {
                    at++;
                    int t = known(w, 't');
                    expect("to");
                    int m = known(w, 'm');
                    w.things.get(t).says.put(m, number(0, 99));
                    expect(";");
                } else if (part.equals("after")) {
                    needFault(w.afters < 12, 6);
                    at++;
                    int a = known(w, 't');
                    int b = known(w, 't');
                    at--;
                    needFault(a != b && w.things.get(a).of == w.things.get(b).of, 5);
                    at++;
                    w.things.get(a).after.add(b);
                    w.afters++;
                    expect(";");
                } else if (part.equals("likes")) {
                    at++;
                    int s = known(w, 's');
                    int m = known(w, 'm');
                    w.suitors.get(s).likes.put(m, number(0, 99));
                    expect(";");
                } else if (part.equals("weekly")) {
                    needFault(!weekly, 5);
                    at++;
                    w.weekly = number(1, 9);
                    expect(";");
                    weekly = true;
                } else if (part.equals("fair")) {
                    needFault(!fair, 5);
                    at++;
                    w.fair = number(1, 20);
                    expect(";");
                    fair = true;
                } else {
                    needFault(false, 2);
                }
            }
            return w;
        }

        List<Step> years(World w) {
            List<Step> all = steps(w, 0);
            needFault(here().isEmpty(), 2);
            return all;
        }

        private List<Step> steps(World w, int depth) {
            List<Step> all = new ArrayList<>();
            Set<String> begins = new HashSet<>(Arrays.asList(
                    "give", "feign", "any", "back", "week", "wed", "when", "loop", "stop"));
            while (begins.contains(here())) {
                needFault(steps < 30, 6);
                Step s = new Step();
                s.word = here();
                boolean opens = s.word.equals("when") || s.word.equals("loop");
                needFault(!opens || depth < 3, 7);
                at++;
                steps++;
                switch (s.word) {
                    case "give":
                    case "feign":
                    case "back":
                        s.a = known(w, 't');
                        break;
                    case "any":
                        s.a = known(w, 's');
                        break;
                    case "wed":
                        s.a = known(w, 's');
                        expect("with");
                        s.b = known(w, 'm');
                        break;
                    case "loop":
                        s.number = number(1, 99);
                        break;
                    case "when":
                        test(w, s);
                        break;
                    default:
                        break;
                }
                expect(";");
                if (opens) {
                    s.inner = steps(w, depth + 1);
                    expect("end");
                    expect(";");
                }
                all.add(s);
            }
            return all;
        }

        private void test(World w, Step s) {
            needFault(Arrays.asList("heard", "yes", "bare").contains(here()), 2);
            s.test = here();
            at++;
            s.a = known(w, 's');
            if (s.test.equals("bare")) {
                return;
            }
            expect("to");
            s.b = known(w, 'm');
            if (s.test.equals("heard")) {
                needFault(here().matches("[<>=]"), 2);
                s.sign = here();
                at++;
                s.number = number(0, 9999);
            }
        }
    }

    /** For the tests alone: how many SUITORS, MAIDS, THINGS, without a STATUS. */
    int[] counts() {
        return new int[] {world.suitors.size(), world.maids.size(), world.things.size()};
    }

    public int told(int what) {
        return askInt(() -> {
            needIn(what, 0, 9);
            int wed = 0;
            for (Suitor s : world.suitors) {
                wed += s.maid >= 0 ? 1 : 0;
            }
            return new int[] {world.suitors.size(), world.maids.size(), world.things.size(), world.afters,
                world.weekly, world.fair, world.week, wed, world.set(-1, "g"), world.set(-1, "f")}[what];
        });
    }

    public int suitor(int suitor, int what) {
        return askInt(() -> {
            needSuitor(suitor);
            needIn(what, 0, 6);
            Suitor s = world.suitors.get(suitor);
            need(what != 5 || s.maid >= 0, 6);
            return new int[] {s.age, s.cows, s.thisWeek, world.worth(suitor, false), world.worth(suitor, true),
                s.maid, world.set(suitor, "hgf")}[what];
        });
    }

    public int maid(int maid, int what) {
        return askInt(() -> {
            needMaid(maid);
            needIn(what, 0, 4);
            Maid m = world.maids.get(maid);
            need(what != 4 || m.suitor >= 0, 6);
            return new int[] {m.bar, m.rises, m.mother, world.barIn(maid, world.week), m.suitor}[what];
        });
    }

    private static int bits(Iterable<Integer> all) {
        int set = 0;
        for (int i : all) {
            set |= 1 << i;
        }
        return set;
    }

    public int thing(int thing, int what) {
        return askInt(() -> {
            needThing(thing);
            needIn(what, 0, 4);
            Thing t = world.things.get(thing);
            boolean never = (world.neverSet() >> thing & 1) == 1;
            return new int[] {t.of, t.worth, "hgf".indexOf(t.state), bits(t.after),
                never ? 99 : world.needs(thing).size()}[what];
        });
    }

    public int says(int thing, int maid) {
        return askInt(() -> {
            needThing(thing);
            needMaid(maid);
            return world.says(thing, maid);
        });
    }

    private int likesOf(int suitor, int maid) {
        return world.suitors.get(suitor).likes.getOrDefault(maid, 0);
    }

    public int likes(int suitor, int maid) {
        return askInt(() -> {
            needSuitor(suitor);
            needMaid(maid);
            return likesOf(suitor, maid);
        });
    }

    public int give(int thing) {
        return askInt(() -> {
            needThing(thing);
            need(world.give(thing, 'g'), 7);
            return world.worth(world.things.get(thing).of, true);
        });
    }

    private int feigned(int thing) {
        return Integer.bitCount(world.set(world.things.get(thing).of, "f"));
    }

    public int feign(int thing) {
        return askInt(() -> {
            needThing(thing);
            need(world.give(thing, 'f'), 7);
            return feigned(thing);
        });
    }

    public int found(int thing) {
        return askInt(() -> {
            needThing(thing);
            need(world.things.get(thing).state == 'f', 7);
            world.things.get(thing).state = 'h';
            return feigned(thing);
        });
    }

    private static List<Integer> mays(World w, int suitor) {
        List<Integer> all = new ArrayList<>();
        for (int t = 0; t < w.things.size(); t++) {
            if (w.things.get(t).of == suitor && w.canGive(t)) {
                all.add(t);
            }
        }
        return all;
    }

    public int may(int suitor) {
        return askInt(() -> {
            needSuitor(suitor);
            return bits(mays(world, suitor));
        });
    }

    public int week() {
        return askInt(() -> {
            need(world.nextWeek(), 4);
            return world.week;
        });
    }

    public int heard(int suitor, int maid) {
        return askInt(() -> {
            needSuitor(suitor);
            needMaid(maid);
            return world.heard(suitor, maid);
        });
    }

    public int yes(int suitor, int maid) {
        return askInt(() -> {
            needSuitor(suitor);
            needMaid(maid);
            return world.yes(suitor, maid) ? 1 : 0;
        });
    }

    public int lacks(int suitor, int maid) {
        return askInt(() -> {
            needSuitor(suitor);
            needMaid(maid);
            return world.barIn(maid, world.week) - world.heard(suitor, maid);
        });
    }

    public int wed(int suitor, int maid) {
        return askInt(() -> {
            needSuitor(suitor);
            needMaid(maid);
            need(world.wed(suitor, maid), 7);
            return world.suitors.get(suitor).cows;
        });
    }

    public int back(int thing) {
        return askInt(() -> {
            needThing(thing);
            need(world.back(thing), 7);
            return world.suitors.get(world.things.get(thing).of).cows;
        });
    }

    public int toFair() {
        return askInt(() -> {
            int weeks = 0;
            while (world.week + weeks == 0 || (world.week + weeks) % world.fair != 0) {
                weeks++;
            }
            return weeks;
        });
    }

    public int bare(int suitor) {
        return askInt(() -> {
            needSuitor(suitor);
            return world.bare(suitor) ? 1 : 0;
        });
    }

    public int wouldHave(int maid) {
        return askInt(() -> {
            needMaid(maid);
            int best = -1;
            for (int s = 0; s < world.suitors.size(); s++) {
                if (world.suitors.get(s).maid < 0) {
                    best = best < 0 ? s : world.rank(maid, best, s);
                }
            }
            need(best >= 0, 6);
            return best;
        });
    }

    public int proud(int maid) {
        return askInt(() -> {
            needMaid(maid);
            List<Integer> all = new ArrayList<>();
            for (int t = 0; t < world.things.size(); t++) {
                if (world.says(t, maid) > world.things.get(t).worth) {
                    all.add(t);
                }
            }
            return bits(all);
        });
    }

    public int dearest(int suitor, int maid) {
        return askInt(() -> {
            needSuitor(suitor);
            needMaid(maid);
            int best = -1;
            double most = -1;
            for (int t = 0; t < world.things.size(); t++) {
                Thing x = world.things.get(t);
                double much = world.says(t, maid) / (x.worth + 1.0);
                if (x.of == suitor && x.state == 'h' && much > most + 1e-9) {
                    best = t;
                    most = much;
                }
            }
            need(best >= 0, 6);
            return best;
        });
    }

    private void fraction(long a, long b) {
        long d = Math.max(a, b);
        while (a % d != 0 || b % d != 0) {
            d--;
        }
        top = a / d;
        bottom = b / d;
    }

    public boolean share(int suitor, int maid) {
        return askIf(() -> {
            needSuitor(suitor);
            needMaid(maid);
            int all = 0;
            for (int t = 0; t < world.things.size(); t++) {
                all += world.things.get(t).of == suitor ? world.says(t, maid) : 0;
            }
            need(all > 0, 6);
            fraction(world.heard(suitor, maid), all);
            return 1;
        });
    }

    public boolean like(int suitor, int maid, int much) {
        return askIf(() -> {
            needSuitor(suitor);
            needMaid(maid);
            needIn(much, 0, 99);
            world.suitors.get(suitor).likes.put(maid, much);
            return 1;
        });
    }

    public boolean bar(int maid, int much) {
        return askIf(() -> {
            needMaid(maid);
            needIn(much, 0, 999);
            world.maids.get(maid).bar = much;
            return 1;
        });
    }

    /** What gives YES by living through the WEEKS: {worth, how many, set, weeks}, every way that there is. */
    private List<int[]> plans(int suitor, int maid, int weeks, int[] most) {
        List<int[]> found = new ArrayList<>();
        TreeSet<Integer> reached = new TreeSet<>();
        reached.add(0);
        int gifts = world.weekly - world.suitors.get(suitor).thisWeek;
        boolean grows = true;
        for (int j = 0; j <= weeks && world.week + j <= 999; j++) {
            for (int i = 0; i < gifts && grows; i++) {
                TreeSet<Integer> more = new TreeSet<>(reached);
                for (int set : reached) {
                    addOnes(suitor, set, more);
                }
                grows = more.size() > reached.size();
                reached = more;
            }
            gifts = world.weekly;
            for (int set : reached) {
                int heard = world.heard(suitor, maid);
                int worth = 0;
                for (int t = 0; t < world.things.size(); t++) {
                    if ((set >> t & 1) == 1) {
                        heard += world.says(t, maid);
                        worth += world.things.get(t).worth;
                    }
                }
                most[0] = Math.max(most[0], heard);
                if (heard >= world.barIn(maid, world.week + j)) {
                    found.add(new int[] {worth, Integer.bitCount(set), set, j});
                }
            }
        }
        return found;
    }

    private void addOnes(int suitor, int set, Set<Integer> more) {
        for (int t = 0; t < world.things.size(); t++) {
            Thing x = world.things.get(t);
            if (x.of == suitor && x.state == 'h' && (set >> t & 1) == 0) {
                boolean can = true;
                for (int u : x.after) {
                    can &= world.things.get(u).state == 'g' || (set >> u & 1) == 1;
                }
                if (can) {
                    more.add(set | 1 << t);
                }
            }
        }
    }

    private List<int[]> askPlans(int suitor, int maid, int weeks) {
        needSuitor(suitor);
        needMaid(maid);
        needIn(weeks, 0, 99);
        need(world.suitors.get(suitor).maid < 0 && world.maids.get(maid).suitor < 0, 7);
        List<int[]> found = plans(suitor, maid, weeks, new int[1]);
        need(!found.isEmpty(), 6);
        found.sort((p, q) -> p[0] != q[0] ? p[0] - q[0] : p[1] != q[1] ? p[1] - q[1] : p[2] - q[2]);
        return found;
    }

    private static int lowest(List<int[]> plans, int what) {
        int low = Integer.MAX_VALUE;
        for (int[] p : plans) {
            low = Math.min(low, p[what]);
        }
        return low;
    }

    public int least(int suitor, int maid, int weeks) {
        return askInt(() -> askPlans(suitor, maid, weeks).get(0)[0]);
    }

    public int leastSet(int suitor, int maid, int weeks) {
        return askInt(() -> askPlans(suitor, maid, weeks).get(0)[2]);
    }

    public int fewest(int suitor, int maid, int weeks) {
        return askInt(() -> lowest(askPlans(suitor, maid, weeks), 1));
    }

    public int soonest(int suitor, int maid) {
        return askInt(() -> lowest(askPlans(suitor, maid, 99), 3));
    }

    public int most(int suitor, int maid, int weeks) {
        return askInt(() -> {
            needSuitor(suitor);
            needMaid(maid);
            needIn(weeks, 0, 99);
            need(world.suitors.get(suitor).maid < 0, 7);
            int[] most = {0};
            plans(suitor, maid, weeks, most);
            return most[0];
        });
    }

    /** -1: there is none. */
    private int leastWorth(int suitor, int maid, int weeks) {
        if (world.suitors.get(suitor).maid >= 0 || world.maids.get(maid).suitor >= 0) {
            return -1;
        }
        List<int[]> found = plans(suitor, maid, weeks, new int[1]);
        return found.isEmpty() ? -1 : lowest(found, 0);
    }

    public int rivals(int a, int b, int maid) {
        return askInt(() -> {
            needSuitor(a);
            needSuitor(b);
            needMaid(maid);
            need(a != b, 1);
            need(world.suitors.get(a).maid < 0 && world.suitors.get(b).maid < 0 && world.maids.get(maid).suitor < 0, 7);
            List<int[]> ofA = plans(a, maid, 99, new int[1]);
            List<int[]> ofB = plans(b, maid, 99, new int[1]);
            need(!ofA.isEmpty() || !ofB.isEmpty(), 6);
            int soonA = lowest(ofA, 3);
            int soonB = lowest(ofB, 3);
            if (soonA != soonB) {
                return soonA < soonB ? a : b;
            }
            int older = world.suitors.get(a).age - world.suitors.get(b).age;
            return older > 0 ? a : older < 0 ? b : Math.min(a, b);
        });
    }

    public int cheapest(int suitor, int weeks) {
        return askInt(() -> {
            needSuitor(suitor);
            needIn(weeks, 0, 99);
            need(world.suitors.get(suitor).maid < 0, 7);
            int best = -1;
            int low = Integer.MAX_VALUE;
            for (int m = 0; m < world.maids.size(); m++) {
                int worth = leastWorth(suitor, m, weeks);
                if (worth >= 0 && worth < low) {
                    best = m;
                    low = worth;
                }
            }
            need(best >= 0, 6);
            return best;
        });
    }

    public int within(int suitor, int weeks) {
        return askInt(() -> {
            needSuitor(suitor);
            needIn(weeks, 0, 99);
            need(world.suitors.get(suitor).maid < 0, 7);
            int set = 0;
            for (int m = 0; m < world.maids.size(); m++) {
                set |= leastWorth(suitor, m, weeks) >= 0 ? 1 << m : 0;
            }
            return set;
        });
    }

    /** {couples, -loss, then each SUITOR's -MAID (none: -99)}: the greatest row is the village. */
    private int[] match(int weeks) {
        int[][] cost = new int[world.suitors.size()][world.maids.size()];
        for (int s = 0; s < cost.length; s++) {
            for (int m = 0; m < cost[s].length; m++) {
                cost[s][m] = leastWorth(s, m, weeks);
            }
        }
        int[] row = new int[2 + cost.length];
        return match(cost, 0, row, null);
    }

    private int[] match(int[][] cost, int s, int[] row, int[] best) {
        if (s == cost.length) {
            return best == null || Arrays.compare(row, best) > 0 ? row.clone() : best;
        }
        for (int m = 0; m < cost[s].length; m++) {
            boolean free = cost[s][m] >= 0;
            for (int r = 0; r < s; r++) {
                free &= row[2 + r] != -m;
            }
            if (free) {
                row[0]++;
                row[1] -= cost[s][m];
                row[2 + s] = -m;
                best = match(cost, s + 1, row, best);
                row[0]--;
                row[1] += cost[s][m];
            }
        }
        row[2 + s] = -99;
        return match(cost, s + 1, row, best);
    }

    public int village(int weeks, int what) {
        return askInt(() -> {
            needIn(weeks, 0, 99);
            needIn(what, 0, 1);
            int[] row = match(weeks);
            return what == 0 ? row[0] : -row[1];
        });
    }

    public int villager(int weeks, int suitor) {
        return askInt(() -> {
            needIn(weeks, 0, 99);
            needSuitor(suitor);
            int maid = match(weeks)[2 + suitor];
            need(maid != -99, 6);
            return -maid;
        });
    }

    private List<int[]> bolting(int tray) {
        needIn(tray, 0, 3);
        need(trays[tray] != null, 2);
        int n = world.suitors.size();
        need(trays[tray].length >= n, 3);
        Map<Long, Integer> husbands = new HashMap<>();
        for (int s = 0; s < n; s++) {
            long m = trays[tray][s];
            need(m >= -1 && m < world.maids.size(), 5);
            if (m >= 0) {
                need(husbands.put(m, s) == null, 5);
            }
        }
        List<int[]> all = new ArrayList<>();
        for (int s = 0; s < n; s++) {
            for (int m = 0; m < world.maids.size(); m++) {
                long own = trays[tray][s];
                Integer husband = husbands.get((long) m);
                boolean likesMore = own < 0 || likesOf(s, m) > likesOf(s, (int) own);
                boolean heardMore = husband == null || world.heard(s, m) > world.heard(husband, m);
                if (own != m && likesMore && heardMore) {
                    all.add(new int[] {s, m});
                }
            }
        }
        return all;
    }

    public int bolts(int tray) {
        return askInt(() -> bolting(tray).size());
    }

    public int bolter(int tray, int what) {
        return askInt(() -> {
            needIn(what, 0, 1);
            List<int[]> all = bolting(tray);
            need(!all.isEmpty(), 6);
            return all.get(0)[what];
        });
    }

    /** One asks after another (the end is the same, and so is how many are refused); last: the refusals. */
    private int[] keeping() {
        int n = world.suitors.size();
        int k = world.maids.size();
        int[] of = new int[n + 1];
        Arrays.fill(of, 0, n, -1);
        int[] keeps = new int[k];
        Arrays.fill(keeps, -1);
        List<List<Integer>> lists = new ArrayList<>();
        ArrayDeque<Integer> free = new ArrayDeque<>();
        for (int s = 0; s < n; s++) {
            int suitor = s;
            List<Integer> list = new ArrayList<>();
            for (int m = 0; m < k; m++) {
                list.add(m);
            }
            list.sort((a, b) -> likesOf(suitor, b) - likesOf(suitor, a));
            lists.add(list);
            free.add(s);
        }
        while (!free.isEmpty()) {
            int s = free.poll();
            if (lists.get(s).isEmpty()) {
                continue;
            }
            int m = lists.get(s).remove(0);
            int kept = keeps[m] < 0 ? s : world.rank(m, keeps[m], s);
            int other = keeps[m] < 0 ? -1 : kept == s ? keeps[m] : s;
            keeps[m] = kept;
            of[kept] = m;
            if (other >= 0) {
                of[other] = -1;
                of[n]++;
                free.add(other);
            }
        }
        return of;
    }

    public int asked(int suitor) {
        return askInt(() -> {
            needSuitor(suitor);
            int maid = keeping()[suitor];
            need(maid >= 0, 6);
            return maid;
        });
    }

    public int refusals() {
        return askInt(() -> keeping()[world.suitors.size()]);
    }

    public int keep(int tray) {
        return askInt(() -> {
            needIn(tray, 0, 3);
            need(trays[tray] != null, 2);
            need(trays[tray].length >= world.suitors.size(), 3);
            int kept = 0;
            int[] of = keeping();
            for (int s = 0; s < world.suitors.size(); s++) {
                put(tray, s, of[s]);
                kept += of[s] >= 0 ? 1 : 0;
            }
            return kept;
        });
    }

    private long ordersOf(int set, int done, Map<Integer, Long> known) {
        if (set == done) {
            return 1;
        }
        Long old = known.get(done);
        if (old != null) {
            return old;
        }
        long sum = 0;
        for (int t = 0; t < world.things.size(); t++) {
            int bit = 1 << t;
            if ((set & ~done & bit) != 0 && (bits(world.things.get(t).after) & ~done) == 0) {
                sum += ordersOf(set, done | bit, known);
            }
        }
        known.put(done, sum);
        return sum;
    }

    public long orders(int suitor) {
        return ask(() -> {
            needSuitor(suitor);
            return ordersOf(world.set(suitor, "g"), 0, new HashMap<>());
        });
    }

    public int ends(int suitor, int what) {
        return askInt(() -> {
            needSuitor(suitor);
            needIn(what, 0, 1);
            int given = world.set(suitor, "g");
            int set = 0;
            for (int t = 0; t < world.things.size(); t++) {
                int bit = 1 << t;
                // It can have been at that end if some order goes on from there, or up to there.
                boolean can = (given & bit) != 0 && (what == 0
                        ? bits(world.things.get(t).after) == 0 && ordersOf(given, bit, new HashMap<>()) > 0
                        : ordersOf(given & ~bit, 0, new HashMap<>()) > 0);
                set |= can ? bit : 0;
            }
            return set;
        });
    }

    public int needs(int thing) {
        return askInt(() -> {
            needThing(thing);
            return bits(world.needs(thing));
        });
    }

    public int never(int suitor) {
        return askInt(() -> {
            needSuitor(suitor);
            return world.neverSet() & world.set(suitor, "hgf");
        });
    }

    public long ways(int suitor) {
        return ask(() -> {
            needSuitor(suitor);
            return ordersOf(world.set(suitor, "hgf") & ~world.neverSet(), 0, new HashMap<>());
        });
    }

    public int lies(int suitor, int maid, int what) {
        return askInt(() -> {
            needSuitor(suitor);
            needMaid(maid);
            needIn(what, 0, 1);
            int set = world.set(suitor, "f");
            int sum = 0;
            for (int t = 0; t < world.things.size(); t++) {
                sum += (set >> t & 1) == 1 ? world.says(t, maid) : 0;
            }
            return what == 0 ? Integer.bitCount(set) : sum;
        });
    }

    public int cheats(int maid) {
        return askInt(() -> {
            needMaid(maid);
            World honest = world.copy();
            for (Thing t : honest.things) {
                t.state = t.state == 'f' ? 'h' : t.state;
            }
            int set = 0;
            for (int s = 0; s < world.suitors.size(); s++) {
                set |= world.yes(s, maid) && !honest.yes(s, maid) ? 1 << s : 0;
            }
            return set;
        });
    }

    private static final class Halt extends RuntimeException {
        final boolean cut;

        Halt(boolean cut) {
            super(null, null, false, false);
            this.cut = cut;
        }
    }

    /** One life: {missed, weeks, given, weddings, cut, steps}. */
    private static final class Life {
        final World w;
        long s;
        final int[] sums = new int[6];

        Life(World w, int seed) {
            this.w = w;
            this.s = seed;
        }

        int[] live() {
            try {
                all(w.years);
            } catch (Halt h) {
                sums[4] = h.cut ? 1 : 0;
            }
            return sums;
        }

        private void all(List<Step> steps) {
            for (Step step : steps) {
                if (sums[5] == 300) {
                    throw new Halt(true);
                }
                sums[5]++;
                one(step);
            }
        }

        private void one(Step step) {
            boolean done = true;
            switch (step.word) {
                case "stop":
                    throw new Halt(false);
                case "loop":
                    for (int i = 0; i < step.number; i++) {
                        all(step.inner);
                    }
                    break;
                case "when":
                    if (test(step)) {
                        all(step.inner);
                    }
                    break;
                case "give":
                    done = w.give(step.a, 'g');
                    sums[2] += done ? 1 : 0;
                    break;
                case "feign":
                    done = w.give(step.a, 'f');
                    break;
                case "back":
                    done = w.back(step.a);
                    break;
                case "week":
                    done = w.nextWeek();
                    sums[1] += done ? 1 : 0;
                    break;
                case "wed":
                    done = w.wed(step.a, step.b);
                    sums[3] += done ? 1 : 0;
                    break;
                default:
                    List<Integer> may = mays(w, step.a);
                    done = !may.isEmpty();
                    if (done) {
                        s = (s * 2927 + 11129) % 65536;
                        w.give(may.get((int) (s / 8 % may.size())), 'g');
                        sums[2]++;
                    }
                    break;
            }
            sums[0] += done ? 0 : 1;
        }

        private boolean test(Step step) {
            if (step.test.equals("bare")) {
                return w.bare(step.a);
            }
            if (step.test.equals("yes")) {
                return w.yes(step.a, step.b);
            }
            int diff = w.heard(step.a, step.b) - step.number;
            return step.sign.equals("<") ? diff < 0 : step.sign.equals(">") ? diff > 0 : diff == 0;
        }
    }

    public int live(int seed) {
        return askInt(() -> {
            needIn(seed, 0, 9999);
            need(world.years != null, 6);
            lived = new Life(world, seed).live();
            return lived[5];
        });
    }

    public int lived(int what) {
        return askInt(() -> {
            needIn(what, 0, 4);
            need(lived != null, 6);
            return lived[what];
        });
    }

    public boolean mean(int suitor, int seed, int many) {
        return askIf(() -> {
            needSuitor(suitor);
            needIn(seed, 0, 9999);
            needIn(many, 1, 20);
            needIn(seed + many - 1, 0, 9999);
            need(world.years != null, 6);
            long sum = 0;
            for (int i = 0; i < many; i++) {
                World w = world.copy();
                new Life(w, seed + i).live();
                sum += w.worth(suitor, true);
            }
            fraction(sum, many);
            return 1;
        });
    }

    public int mark() {
        return askInt(() -> {
            need(marks.size() < 3, 4);
            marks.push(world.copy());
            return marks.size();
        });
    }

    public int undo() {
        return askInt(() -> {
            need(!marks.isEmpty(), 6);
            world = marks.pop();
            return marks.size();
        });
    }
}
