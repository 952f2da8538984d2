import java.io.IOException;
import java.lang.reflect.InvocationTargetException;
import java.lang.reflect.Method;
import java.lang.reflect.Modifier;
import java.nio.file.Files;
import java.nio.file.Path;
import java.util.Set;
import java.util.TreeSet;
import java.util.regex.Matcher;
import java.util.regex.Pattern;

/** The calls that README.md shows answer what stands behind them there, and it shows each method. */
public final class ReadmeTest {
    private static final Pattern CALL = Pattern.compile("clock\\.(\\w+)\\((.*)\\); *// (-?[0-9]+(?:\\.[0-9]+)?)\\b.*");
    private static final Pattern TYPED = Pattern.compile("type\\(clock, \"(.*)\"\\);");

    private final Set<String> shown = new TreeSet<>();
    private CordClock clock = new CordClock();

    public static void main(String[] args) throws IOException {
        Path root = Path.of(args.length > 0 ? args[0] : ".");
        ReadmeTest test = new ReadmeTest();
        String[] parts = Files.readString(root.resolve("README.md")).split("(?m)^```");
        for (String part : parts) {
            // The page's own method "type" is Ask's.
            if (part.startsWith("java\n") && !part.contains("static void type(")) {
                part.lines().skip(1).forEach(test::line);
            }
        }
        test.eachMethod();
        Check.end("ReadmeTest");
    }

    private void line(String line) {
        Matcher call = CALL.matcher(line);
        Matcher typed = TYPED.matcher(line);
        if (call.matches()) {
            shown.add(call.group(1));
            Check.dueText(line, answer(call.group(1), call.group(2)), call.group(3));
        } else if (typed.matches()) {
            shown.add("append");
            Ask.type(clock, typed.group(1));
        } else {
            Check.dueText("a line without an answer", line, "CordClock clock = new CordClock();");
            clock = new CordClock();
        }
    }

    private String answer(String name, String written) {
        String[] texts = written.isEmpty() ? new String[0] : written.split(", ");
        for (Method method : CordClock.class.getMethods()) {
            if (method.getName().equals(name) && method.getParameterCount() == texts.length) {
                return answer(method, texts);
            }
        }
        return "no such method";
    }

    private String answer(Method method, String[] texts) {
        Object[] values = new Object[texts.length];
        for (int i = 0; i < texts.length; i++) {
            values[i] = value(method.getParameterTypes()[i], texts[i]);
        }
        try {
            return String.valueOf(method.invoke(clock, values));
        } catch (InvocationTargetException | IllegalAccessException e) {
            return "throws " + e.getCause();
        }
    }

    private static Object value(Class<?> type, String text) {
        if (type == boolean.class) {
            return Boolean.valueOf(text);
        }
        return text.equals("CordClock.NONE") ? CordClock.NONE : Integer.parseInt(text);
    }

    private void eachMethod() {
        Set<String> want = new TreeSet<>();
        for (Method method : CordClock.class.getDeclaredMethods()) {
            if (Modifier.isPublic(method.getModifiers())) {
                want.add(method.getName());
            }
        }
        want.removeAll(shown);
        Check.dueText("methods that the page does not show", want.toString(), "[]");
    }
}
