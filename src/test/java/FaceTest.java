import java.io.IOException;
import java.lang.reflect.Constructor;
import java.lang.reflect.Field;
import java.lang.reflect.Method;
import java.lang.reflect.Modifier;
import java.nio.file.Files;
import java.nio.file.Path;
import java.util.Set;
import java.util.TreeSet;
import java.util.regex.Matcher;
import java.util.regex.Pattern;

/** The face of the class is the document's, and its source keeps to LANGUAGE.md where a look can tell. */
public final class FaceTest {
    private static final String[] NOT_IN_THE_SOURCE = {"\\bpackage\\b", "::", "\\bfinally\\b", "\\bsynchronized\\b",
        "\\bassert\\b", "\\bSystem\\b(?!\\.arraycopy)", "\\bThread\\b", "\\bstatic \\{", "\\.hashCode\\(", "\\bprotected\\b",
        "(?m)^(?!\\s*(case|default)\\b).*->", "\\bimport (?!java\\.util\\.\\w+;)", "\\bMath\\.\\w+Exact\\b"};
    private static final int LONGEST_METHOD = 60;
    private static final int MOST_CLASSES = 12;
    private static final int MOST_FIELDS = 20;
    private static final int MOST_PARAMETERS = 7;

    public static void main(String[] args) throws IOException {
        Path root = Path.of(args.length > 0 ? args[0] : ".");
        face(Files.readString(root.resolve("../shared/DOC.md")));
        source(Files.readString(root.resolve("src/main/java/CordClock.java")));
        inside();
        Check.end("FaceTest");
    }

    private static void face(String document) {
        int start = document.indexOf("```java");
        String block = document.substring(start, document.indexOf("```\n", start + 7));
        Set<String> want = new TreeSet<>();
        for (String line : block.split("\n")) {
            if (line.startsWith("    public") && line.contains("(")) {
                want.add(line.strip().replaceAll("( throws.*)?;", "").replaceAll("(\\w+) \\w+([,)])", "$1$2"));
            }
        }
        Set<String> got = new TreeSet<>();
        for (Method method : CordClock.class.getDeclaredMethods()) {
            if (!Modifier.isPrivate(method.getModifiers()) && !method.isSynthetic()) {
                got.add(Modifier.toString(method.getModifiers()) + " " + method.getReturnType() + " " + method.getName()
                    + types(method.getParameterTypes()));
            }
        }
        for (Constructor<?> constructor : CordClock.class.getDeclaredConstructors()) {
            got.add(Modifier.toString(constructor.getModifiers()) + " CordClock" + types(constructor.getParameterTypes()));
        }
        Check.due("methods and constructors of the document", want.size(), 27);
        Check.dueText("the face", got.toString(), want.toString());
        for (Field field : CordClock.class.getDeclaredFields()) {
            boolean constant = field.getName().equals("NONE");
            Check.due("private " + field.getName(), Modifier.isPrivate(field.getModifiers()) ? 1 : 0, constant ? 0 : 1);
        }
        Check.dueText("the class", Modifier.toString(CordClock.class.getModifiers()), "public final");
    }

    private static String types(Class<?>[] types) {
        StringBuilder text = new StringBuilder("(");
        for (int i = 0; i < types.length; i++) {
            text.append(i > 0 ? ", " : "").append(types[i]);
        }
        return text.append(")").toString();
    }

    private static void source(String source) {
        String code = source.replaceAll("(?s)/\\*.*?\\*/", "").replaceAll("//[^\n]*", "");
        for (String word : NOT_IN_THE_SOURCE) {
            Matcher matcher = Pattern.compile(word).matcher(code);
            Check.dueText("source with " + word, matcher.find() ? "found" : "none", "none");
        }
        int started = 0;
        String[] lines = source.split("\n");
        for (int i = 0; i < lines.length; i++) {
            started = lines[i].matches(" {4}( {4})?\\S.*\\) .*\\{|.*\\w\\(.*\\) \\{") && !lines[i].startsWith("            ")
                ? i : started;
            if (lines[i].matches(" {4}( {4})?\\}")) {
                Check.due("a short method up to line " + i, i - started <= LONGEST_METHOD || isClassEnd(lines, i) ? 1 : 0, 1);
            }
        }
    }

    private static boolean isClassEnd(String[] lines, int i) {
        return lines[i].equals("    }") && i > 0 && lines[i - 1].equals("        }");
    }

    private static void inside() {
        Set<String> publicNames = new TreeSet<>();
        for (Method method : CordClock.class.getDeclaredMethods()) {
            if (Modifier.isPublic(method.getModifiers())) {
                publicNames.add(method.getName());
            }
        }
        Class<?>[] classes = CordClock.class.getDeclaredClasses();
        Check.due("not too many classes", classes.length + 1 <= MOST_CLASSES ? 1 : 0, 1);
        for (Class<?> one : classes) {
            Check.due(one + " is static", Modifier.isStatic(one.getModifiers()) ? 1 : 0, 1);
            Check.due(one + " is not public", Modifier.isPublic(one.getModifiers()) ? 1 : 0, 0);
            small(one);
            ownNames(one, publicNames);
        }
        small(CordClock.class);
        ownNames(CordClock.class, publicNames);
    }

    private static void ownNames(Class<?> one, Set<String> publicNames) {
        for (Method method : one.getDeclaredMethods()) {
            boolean clash = Modifier.isPrivate(method.getModifiers()) && publicNames.contains(method.getName());
            Check.due(method + " has a name of its own", clash ? 1 : 0, 0);
        }
    }

    private static void small(Class<?> one) {
        int fields = 0;
        for (Field field : one.getDeclaredFields()) {
            boolean isStatic = Modifier.isStatic(field.getModifiers());
            fields += isStatic ? 0 : 1;
            Check.due(field + " is final if static", !isStatic || Modifier.isFinal(field.getModifiers()) ? 1 : 0, 1);
        }
        Check.due(one + " has few fields", fields <= MOST_FIELDS ? 1 : 0, 1);
        for (Method method : one.getDeclaredMethods()) {
            Check.due(method + " has few parameters", method.getParameterCount() <= MOST_PARAMETERS ? 1 : 0, 1);
        }
    }
}
