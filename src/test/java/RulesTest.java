import java.lang.reflect.Field;
import java.lang.reflect.Method;
import java.lang.reflect.Modifier;
import java.nio.file.Files;
import java.nio.file.Path;
import java.util.HashSet;
import java.util.List;
import java.util.Set;
import java.util.TreeSet;
import java.util.regex.Matcher;
import java.util.regex.Pattern;

/** The face is the document's, and the source keeps to those rules of LANGUAGE.md that a text can be asked for. */
public final class RulesTest {
    private static final Path SOURCE = Path.of("src/main/java/GivenUp.java");
    private static final Path DOCUMENT = Path.of("../shared/DOC.md");
    private static final int SOME_SIXTY = 65;
    private static final int SOME_TWELVE = 13;
    private static final int SOME_TWENTY = 22;

    public static void main(String[] args) throws Exception {
        String source = Files.readString(SOURCE);
        face(Files.readString(DOCUMENT));
        words(source);
        names(source);
        lengths(source);
        classes();
        Check.end("RulesTest");
    }

    private static void no(String what, boolean found) {
        Check.due(what, found, false);
    }

    private static void face(String document) {
        Set<String> want = new TreeSet<>();
        Matcher m = Pattern.compile("(?m)^    public (\\w+ \\w+\\(.*?\\));").matcher(document);
        while (m.find()) {
            want.add(m.group(1).replaceAll("(int|long) \\w+(?=[,)])", "$1"));
        }
        Set<String> got = new TreeSet<>();
        for (Method method : GivenUp.class.getDeclaredMethods()) {
            if (!Modifier.isPrivate(method.getModifiers())) {
                StringBuilder types = new StringBuilder();
                for (Class<?> type : method.getParameterTypes()) {
                    types.append(types.length() > 0 ? ", " : "").append(type.getName());
                }
                got.add(method.getReturnType().getName() + " " + method.getName() + "(" + types + ")");
            }
        }
        Check.due("how many methods the document has", want.size(), 62);
        Check.due("the face " + got + " as the document has it: " + want, got.equals(want), true);
        for (Field field : GivenUp.class.getDeclaredFields()) {
            no("a field that is seen: " + field.getName(),
                    !Modifier.isPrivate(field.getModifiers()) && !field.getName().equals("NONE"));
        }
    }

    private static void words(String source) {
        String code = source.replaceAll("(?s)/\\*.*?\\*/", "").replaceAll("//[^\n]*", "");
        for (String word : List.of("throw", "try", "catch", "synchronized", "assert", "protected", "package", "var",
                "System\\.(?!arraycopy).*", "\\w*Exact")) {
            no("the source has " + word, Pattern.compile("(?<![\\w.])" + word + "(?!\\w)").matcher(code).find());
        }
        no("a lambda or a method reference", code.contains("->") || code.contains("::"));
        no("texts joined by +", Pattern.compile("\"\\s*\\+|\\+\\s*\"").matcher(code).find());
        Matcher imports = Pattern.compile("(?m)^import (.*);").matcher(code);
        while (imports.find()) {
            Check.due("import " + imports.group(1), imports.group(1).matches("java\\.util\\.(Arrays|ArrayList|List|Iterator)"), true);
        }
        Matcher statics = Pattern.compile("(?m)^ +(public|private) static (?!final)[^(]*[;=]").matcher(code);
        no("a static field that is not final", statics.find());
    }

    /** No private method bears the name of a public one. */
    private static void names(String source) {
        Set<String> face = new HashSet<>();
        for (Method method : GivenUp.class.getDeclaredMethods()) {
            if (Modifier.isPublic(method.getModifiers())) {
                face.add(method.getName());
            }
        }
        for (Method method : GivenUp.class.getDeclaredMethods()) {
            no("a private method that bears the name " + method.getName(),
                    !Modifier.isPublic(method.getModifiers()) && face.contains(method.getName()));
        }
        Matcher many = Pattern.compile("\\w \\w+\\(((?:int|long|boolean|\\w+\\[?\\]?) \\w+, ){7,}").matcher(source);
        no("a method of more than seven parameters", many.find());
    }

    private static void lengths(String source) {
        int begin = 0;
        String[] lines = source.split("\n");
        for (int i = 0; i < lines.length; i++) {
            if (lines[i].matches(" {4}( {4})?\\S.*\\) \\{")) {
                begin = i;
            }
            if (lines[i].matches(" {4}( {4})?}")) {
                no("a method of far more than sixty lines at line " + (begin + 1), i - begin > SOME_SIXTY && lines[begin].endsWith(") {")
                        && lines[i].indexOf('}') == lines[begin].length() - lines[begin].trim().length());
            }
        }
    }

    private static void classes() {
        Class<?>[] inside = GivenUp.class.getDeclaredClasses();
        Check.due("how many classes there are: " + inside.length, inside.length <= SOME_TWELVE, true);
        for (Class<?> c : inside) {
            Check.due("static: " + c.getName(), Modifier.isStatic(c.getModifiers()), true);
            int fields = 0;
            for (Field field : c.getDeclaredFields()) {
                fields += Modifier.isStatic(field.getModifiers()) ? 0 : 1;
            }
            Check.due("some twenty fields, not " + fields + ": " + c.getName(), fields <= SOME_TWENTY, true);
        }
    }
}
