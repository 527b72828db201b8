import java.lang.reflect.InvocationTargetException;
import java.lang.reflect.Method;
import java.nio.file.Files;
import java.nio.file.Path;
import java.util.ArrayList;
import java.util.Arrays;
import java.util.Comparator;
import java.util.LinkedHashMap;
import java.util.List;
import java.util.Map;
import java.util.regex.Matcher;
import java.util.regex.Pattern;

/**
 * Runs a test for each sentence of the document. A test bears the part and the words that it is of; here is also asked
 * that those words stand in that part, and that no word of the Terms and the Promises is without a test.
 */
public final class SentencesTest {
    private static final Path DOCUMENT = Path.of("../shared/DOC.md");
    private static final List<Class<?>> TESTS = List.of(FaceSentences.class, Terms1Sentences.class, Terms2Sentences.class,
            Terms3Sentences.class, Terms4Sentences.class, Terms5Sentences.class, Promises01To18Sentences.class,
            Promises19To36Sentences.class, Promises37To51Sentences.class, Promises52To63Sentences.class);

    private final Map<String, String> parts = new LinkedHashMap<>();
    // Which characters of a part no test has told yet.
    private final Map<String, char[]> untold = new LinkedHashMap<>();
    private int wrong = 0;

    public static void main(String[] args) throws Exception {
        SentencesTest all = new SentencesTest();
        all.readDocument(Files.readString(DOCUMENT));
        int tests = 0;
        for (Class<?> c : TESTS) {
            for (Method m : methods(c)) {
                if (args.length == 0 || m.getName().contains(args[0])) {
                    all.run(m);
                    tests++;
                }
            }
        }
        if (args.length == 0) {
            all.noWordIsUntold();
        }
        System.out.println("SentencesTest: " + tests + " tests of sentences, " + Due.asked() + " answers, "
                + all.wrong + " tests failed");
        if (all.wrong > 0) {
            System.exit(1);
        }
    }

    private static List<Method> methods(Class<?> c) {
        List<Method> all = new ArrayList<>();
        for (Method m : c.getDeclaredMethods()) {
            if (m.isAnnotationPresent(Sentence.class)) {
                all.add(m);
            }
        }
        all.sort(Comparator.comparing(Method::getName));
        return all;
    }

    private void run(Method m) throws IllegalAccessException {
        Sentence of = m.getAnnotation(Sentence.class);
        boolean told = tell(m, of);
        int before = Due.wrong();
        String threw = "";
        try {
            m.setAccessible(true);
            m.invoke(null);
        } catch (InvocationTargetException e) {
            Throwable cause = e.getCause();
            threw = cause + " " + Arrays.toString(cause.getStackTrace());
        }
        if (!told || Due.wrong() > before || !threw.isEmpty()) {
            wrong++;
            System.out.println("FAILED " + m.getName() + " of " + of.in() + ": \"" + of.says() + "\" " + threw);
        }
    }

    /** Marks the words of a test as told; false if they do not stand where the test says. */
    private boolean tell(Method m, Sentence of) {
        String text = parts.getOrDefault(of.in(), "");
        int at = text.indexOf(of.says());
        if (at < 0) {
            System.out.println("  these words do not stand in " + of.in());
            return false;
        }
        Arrays.fill(untold.get(of.in()), at, at + of.says().length(), ' ');
        if (!m.getName().startsWith(nameOf(of.in()))) {
            System.out.println("  a test of " + of.in() + " is named " + nameOf(of.in()) + "...");
            return false;
        }
        return true;
    }

    /** How a test of a part is named: promise08_.., terms1_.., face_.. */
    private static String nameOf(String part) {
        String[] words = part.split(" ");
        if (words[0].equals("Promise")) {
            return String.format("promise%02d_", Integer.parseInt(words[1]));
        }
        return words[0].equals("Terms") ? "terms" + words[1] + "_" : "face_";
    }

    private void noWordIsUntold() {
        for (String part : parts.keySet()) {
            String left = new String(untold.get(part)).replaceAll("[^A-Za-z0-9 ]", " ").replaceAll(" +", " ").trim();
            if (!left.isEmpty()) {
                wrong++;
                System.out.println("FAILED: in " + part + " no test is of the words: " + left);
            }
        }
    }

    private void readDocument(String text) {
        // Of what stands outside of Terms and Promises two sentences tell of answers.
        Matcher calls = Pattern.compile("An object is used for at most [^\\n]*").matcher(text);
        Matcher constants = Pattern.compile("The constants: [^\\n]*").matcher(text);
        keep("What it is", calls.find() ? calls.group() : "");
        keep("The public face", constants.find() ? constants.group() : "");
        Matcher terms = Pattern.compile("(?ms)^==== (\\d)\\. (.*?)(?=^==== |^The constants)").matcher(text);
        while (terms.find()) {
            keep("Terms " + terms.group(1), terms.group(2));
        }
        Matcher promises = Pattern.compile("(?ms)^## Promise (\\d+): \\w[^\\n]*\\n\\s*`[^`]*`:(.*?)(?=^## |\\z)").matcher(text);
        while (promises.find()) {
            keep("Promise " + promises.group(1), promises.group(2));
        }
        if (parts.size() != 2 + 5 + 63) {
            wrong++;
            System.out.println("FAILED: the document has other parts than 5 Terms and 63 Promises: " + parts.keySet());
        }
    }

    private void keep(String part, String text) {
        String plain = text.replaceAll("```(text)?", " ").replaceAll("\\s+", " ").trim();
        parts.put(part, plain);
        untold.put(part, plain.toCharArray());
    }
}
