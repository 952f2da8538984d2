import java.io.IOException;
import java.lang.reflect.Constructor;
import java.lang.reflect.Field;
import java.lang.reflect.Method;
import java.lang.reflect.Modifier;
import java.nio.file.Files;
import java.nio.file.Path;
import java.util.Set;
import java.util.TreeSet;
import java.util.regex.Matcher;
import java.util.regex.Pattern;

/** The face of the class is the document's, and its source keeps to LANGUAGE.md where a look can tell. */
public final class FaceTest {
    private static final String[] NOT_IN_THE_SOURCE = {"\\bpackage\\b", "::", "\\bfinally\\b", "\\bsynchronized\\b",
        "\\bassert\\b", "\\bSystem\\b(?!\\.arraycopy)", "\\bThread\\b", "\\bstatic \\{", "\\.hashCode\\(", "\\bprotected\\b",
        "(?m)^(?!\\s*(case|default)\\b).*->", "\\bimport (?!java\\.util\\.\\w+;)", "\\bMath\\.\\w+Exact\\b"};
    private static final int LONGEST_METHOD = 60;
    private static final int MOST_CLASSES = 12;
    private static final int MOST_FIELDS = 20;
    private static final int MOST_PARAMETERS = 7;

    public static void main(String[] args) throws IOException {
        Path root = Path.of(args.length > 0 ? args[0] : ".");
        String document = Files.readString(root.resolve("../shared/DOC.md"));
        String source = Files.readString(root.resolve("src/main/java/CordClock.java"));
        face(document);
        words(document, source);
        source(source);
        inside();
        Check.end("FaceTest");
    }

    private static void face(String document) {
        int start = document.indexOf("```java");
        String block = document.substring(start, document.indexOf("```\n", start + 7));
        Set<String> want = new TreeSet<>();
        Set<String> constants = new TreeSet<>();
        for (String line : block.split("\n")) {
            if (line.startsWith("    public") && line.contains("(")) {
                want.add(line.strip().replaceAll(";", "").replaceAll("\\b(int|boolean) \\w+([,)])", "$1$2"));
            } else if (line.startsWith("    public")) {
                constants.add(line.strip());
            }
        }
        Check.due("methods and constructors of the document", want.size(), 27);
        Check.dueText("the face", methods().toString(), want.toString());
        Check.dueText("the constants", constants().toString(), constants.toString());
        Check.dueText("the class", Modifier.toString(CordClock.class.getModifiers()), "public final");
        Check.due("the document's class", block.contains("\npublic final class CordClock {\n") ? 1 : 0, 1);
    }

    /** Constructors and methods that are not private, as the document writes them without the names of arguments. */
    private static Set<String> methods() {
        Set<String> got = new TreeSet<>();
        for (Method method : CordClock.class.getDeclaredMethods()) {
            if (!Modifier.isPrivate(method.getModifiers()) && !method.isSynthetic()) {
                got.add(Modifier.toString(method.getModifiers()) + " " + method.getReturnType() + " " + method.getName()
                    + types(method.getParameterTypes()) + thrown(method.getExceptionTypes()));
            }
        }
        for (Constructor<?> constructor : CordClock.class.getDeclaredConstructors()) {
            got.add(Modifier.toString(constructor.getModifiers()) + " " + CordClock.class.getSimpleName()
                + types(constructor.getParameterTypes()) + thrown(constructor.getExceptionTypes()));
        }
        return got;
    }

    private static Set<String> constants() {
        Set<String> got = new TreeSet<>();
        for (Field field : CordClock.class.getDeclaredFields()) {
            if (!Modifier.isPrivate(field.getModifiers())) {
                got.add(Modifier.toString(field.getModifiers()) + " " + field.getType() + " " + field.getName() + " = "
                    + Check.answer(() -> field.get(null)) + ";");
            }
        }
        return got;
    }

    private static String types(Class<?>[] types) {
        return "(" + names(types) + ")";
    }

    private static String thrown(Class<?>[] types) {
        return types.length == 0 ? "" : " throws " + names(types);
    }

    private static String names(Class<?>[] types) {
        StringBuilder text = new StringBuilder();
        for (int i = 0; i < types.length; i++) {
            text.append(i > 0 ? ", " : "").append(types[i].getSimpleName());
        }
        return text.toString();
    }

    /** Ahead of which calls the interface says what. */
    private static void words(String document, String source) {
        Matcher ahead = Pattern.compile("(?m)^Ahead of the calls (.*) the interface says: (.*)\\.$").matcher(document);
        int found = 0;
        while (ahead.find()) {
            found++;
            String words = "// " + ahead.group(2) + "\n";
            String below = source.substring(source.indexOf(words) + 1).replaceAll("(?s)// ----.*", "");
            Check.due("source with " + words.strip(), source.contains(words) ? 1 : 0, 1);
            for (String call : ahead.group(1).replace("`", "").split(", ")) {
                boolean stands = Pattern.compile("(?m)^    public \\w+ " + call + "\\(").matcher(below).find();
                Check.due(call + " behind " + words.strip(), stands ? 1 : 0, 1);
            }
        }
        Check.due("words of the interface", found, 5);
    }

    private static void source(String source) {
        String code = source.replaceAll("(?s)/\\*.*?\\*/", "").replaceAll("//[^\n]*", "");
        for (String word : NOT_IN_THE_SOURCE) {
            Matcher matcher = Pattern.compile(word).matcher(code);
            Check.dueText("source with " + word, matcher.find() ? "found" : "none", "none");
        }
        int started = 0;
        String[] lines = source.split("\n");
        for (int i = 0; i < lines.length; i++) {
            started = lines[i].matches(" {4}( {4})?\\S.*\\) .*\\{|.*\\w\\(.*\\) \\{") && !lines[i].startsWith("            ")
                ? i : started;
            if (lines[i].matches(" {4}( {4})?\\}")) {
                Check.due("a short method up to line " + i, i - started <= LONGEST_METHOD || isClassEnd(lines, i) ? 1 : 0, 1);
            }
        }
    }

    private static boolean isClassEnd(String[] lines, int i) {
        return lines[i].equals("    }") && i > 0 && lines[i - 1].equals("        }");
    }

    private static void inside() {
        Set<String> publicNames = new TreeSet<>();
        for (Method method : CordClock.class.getDeclaredMethods()) {
            if (Modifier.isPublic(method.getModifiers())) {
                publicNames.add(method.getName());
            }
        }
        Class<?>[] classes = CordClock.class.getDeclaredClasses();
        Check.due("not too many classes", classes.length + 1 <= MOST_CLASSES ? 1 : 0, 1);
        for (Class<?> one : classes) {
            Check.due(one + " is static", Modifier.isStatic(one.getModifiers()) ? 1 : 0, 1);
            Check.due(one + " is not public", Modifier.isPublic(one.getModifiers()) ? 1 : 0, 0);
            small(one);
            ownNames(one, publicNames);
        }
        small(CordClock.class);
        ownNames(CordClock.class, publicNames);
    }

    private static void ownNames(Class<?> one, Set<String> publicNames) {
        for (Method method : one.getDeclaredMethods()) {
            boolean clash = Modifier.isPrivate(method.getModifiers()) && publicNames.contains(method.getName());
            Check.due(method + " has a name of its own", clash ? 1 : 0, 0);
        }
    }

    private static void small(Class<?> one) {
        int fields = 0;
        for (Field field : one.getDeclaredFields()) {
            boolean isStatic = Modifier.isStatic(field.getModifiers());
            fields += isStatic ? 0 : 1;
            Check.due(field + " is final if static", !isStatic || Modifier.isFinal(field.getModifiers()) ? 1 : 0, 1);
        }
        Check.due(one + " has few fields", fields <= MOST_FIELDS ? 1 : 0, 1);
        for (Method method : one.getDeclaredMethods()) {
            Check.due(method + " has few parameters", method.getParameterCount() <= MOST_PARAMETERS ? 1 : 0, 1);
        }
    }
}
