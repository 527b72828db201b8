import java.util.ArrayList;
import java.util.List;
import java.util.Random;

/** Random valleys and YEARS, most of them well told. */
final class Texts {
    private final Random random;
    final List<String> suitors = new ArrayList<>();
    final List<String> maids = new ArrayList<>();
    final List<String> things = new ArrayList<>();
    private final List<Integer> of = new ArrayList<>();
    private int named = 0;

    Texts(Random random) {
        this.random = random;
    }

    private int upTo(int most) {
        return random.nextInt(most + 1);
    }

    private boolean often(int percent) {
        return random.nextInt(100) < percent;
    }

    private String fresh() {
        named++;
        String letters = "abcdefghijklmnopqrstuvwxyz";
        StringBuilder name = new StringBuilder().append((char) ('a' + named % 26));
        int more = often(70) ? 0 : upTo(7);
        for (int i = 0; i < more; i++) {
            name.append(letters.charAt(random.nextInt(26)));
        }
        return name.toString();
    }

    private <T> T one(List<T> of) {
        return of.get(random.nextInt(of.size()));
    }

    String valley() {
        suitors.clear();
        maids.clear();
        things.clear();
        of.clear();
        named = random.nextInt(26);
        StringBuilder t = new StringBuilder();
        int manySuitors = often(5) ? 0 : 1 + upTo(3);
        int manyMaids = often(5) ? 0 : 1 + upTo(3);
        int manyThings = often(10) ? upTo(2) : 3 + upTo(9);
        boolean sameAges = often(50);
        for (int i = 0; i < manySuitors; i++) {
            suitors.add(fresh());
            t.append("suitor ").append(suitors.get(i));
            if (often(50)) {
                t.append(" age ").append(sameAges ? 30 : upTo(99));
            }
            if (often(70)) {
                t.append(" cows ").append(upTo(20));
            }
            t.append(";");
        }
        for (int i = 0; i < manyMaids; i++) {
            maids.add(fresh());
            t.append("maid ").append(maids.get(i)).append(" bar ").append(often(80) ? upTo(60) : upTo(999));
            if (often(50)) {
                t.append(" rises ").append(often(80) ? upTo(4) : upTo(20));
            }
            if (often(50)) {
                t.append(" mother ").append(upTo(9));
            }
            t.append(";");
        }
        int most = often(50) ? 99 : often(50) ? 9 : 3;
        int generous = manySuitors > 0 && often(50) ? random.nextInt(manySuitors) : -1;
        for (int i = 0; i < manyThings && manySuitors > 0; i++) {
            things.add(fresh());
            int suitor = generous >= 0 && often(70) ? generous : random.nextInt(manySuitors);
            of.add(suitor);
            t.append("thing ").append(things.get(i)).append(" of ").append(suitors.get(suitor))
                    .append(" worth ").append(upTo(most)).append(";");
        }
        more(t, most);
        String text = t.toString();
        while (text.length() > 900) {
            text = text.substring(0, text.lastIndexOf(';', text.length() - 2) + 1);
        }
        return text;
    }

    private void more(StringBuilder t, int most) {
        boolean circles = often(30);
        int parts = upTo(20);
        for (int i = 0; i < parts; i++) {
            if (often(40) && !things.isEmpty() && !maids.isEmpty()) {
                t.append("says ").append(one(things)).append(" to ").append(one(maids)).append(" ").append(upTo(most)).append(";");
            } else if (often(60) && !things.isEmpty()) {
                int a = random.nextInt(things.size());
                int b = random.nextInt(things.size());
                if (a != b && of.get(a).equals(of.get(b)) && (circles || a > b)) {
                    t.append("after ").append(things.get(a)).append(" ").append(things.get(b)).append(";");
                }
            } else if (!suitors.isEmpty() && !maids.isEmpty()) {
                t.append("likes ").append(one(suitors)).append(" ").append(one(maids)).append(" ").append(upTo(often(50) ? 5 : 99)).append(";");
            }
        }
        if (often(60)) {
            t.append("weekly ").append(1 + upTo(often(50) ? 2 : 8)).append(";");
        }
        if (often(60)) {
            t.append("fair ").append(1 + upTo(often(70) ? 3 : 19)).append(";");
        }
    }

    /** YEARS for the valley that was made last. */
    String years() {
        StringBuilder t = new StringBuilder();
        int open = 0;
        int steps = often(5) ? 0 : 1 + upTo(often(50) ? 8 : 29);
        int tries = 0;
        for (int i = 0; i < steps && tries < 200; tries++) {
            int before = t.length();
            if (open > 0 && often(25)) {
                t.append("end;");
                open--;
                continue;
            }
            int kind = upTo(11);
            if (kind == 8 || kind == 9) {
                if (open < 3) {
                    String test = kind == 8 ? null : test();
                    if (kind == 8) {
                        t.append("loop ").append(1 + upTo(often(50) ? 3 : 98)).append(";");
                        open++;
                    } else if (test != null) {
                        t.append("when ").append(test).append(";");
                        open++;
                    }
                }
            } else {
                step(t, kind);
            }
            i += t.length() > before ? 1 : 0;
        }
        for (int i = 0; i < open; i++) {
            t.append("end;");
        }
        return t.toString();
    }

    private void step(StringBuilder t, int kind) {
        if (kind <= 2 && !things.isEmpty()) {
            t.append(new String[] {"give ", "feign ", "back "}[kind]).append(one(things)).append(";");
        } else if (kind <= 5 && !suitors.isEmpty()) {
            t.append("any ").append(one(suitors)).append(";");
        } else if (kind == 6 && !suitors.isEmpty() && !maids.isEmpty()) {
            t.append("wed ").append(one(suitors)).append(" with ").append(one(maids)).append(";");
        } else if (kind == 7 || kind == 10) {
            t.append("week;");
        } else if (kind == 11 && often(20)) {
            t.append("stop;");
        }
    }

    private String test() {
        if (suitors.isEmpty()) {
            return null;
        }
        if (maids.isEmpty() || often(30)) {
            return "bare " + one(suitors);
        }
        String couple = one(suitors) + " to " + one(maids);
        if (often(30)) {
            return "yes " + couple;
        }
        return "heard " + couple + new String[] {" < ", " > ", " = "}[upTo(2)] + upTo(often(80) ? 60 : 9999);
    }

    /** Does a small harm to a text, as a hasty hand would. */
    String spoil(String text) {
        String[] bits = {";", " ", "\n", "<", "=", "1", "0", "99999", "1000", "100", "suitor", "end", "end;", "yes", "x",
            "abcdefghi", "\t", "A", "\u0000", "\u00ff", "age", "weekly 2;", "fair 3;", "week;", "loop 2;", "when ", "to "};
        int at = upTo(text.length());
        String bit = bits[random.nextInt(bits.length)];
        switch (upTo(3)) {
            case 0: return text.substring(0, at) + bit + text.substring(at);
            case 1: return text.substring(0, at);
            case 2: return text.substring(0, at) + text.substring(Math.min(text.length(), at + 1 + upTo(5)));
            default: return moved(text);
        }
    }

    private String moved(String text) {
        String[] parts = text.split(";");
        int a = random.nextInt(parts.length);
        int b = random.nextInt(parts.length);
        String part = parts[a];
        parts[a] = parts[b];
        parts[b] = often(50) ? part : parts[b];
        return String.join(";", parts) + (often(90) ? ";" : "");
    }
}
