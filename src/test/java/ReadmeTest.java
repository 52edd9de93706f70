import java.io.IOException;
import java.lang.reflect.Method;
import java.lang.reflect.Modifier;
import java.nio.file.Files;
import java.nio.file.Path;
import java.util.HashSet;
import java.util.Set;
import java.util.regex.Matcher;
import java.util.regex.Pattern;

/** The run of calls in README.md is answered as it says there, and has every call of the face. */
public final class ReadmeTest {
    private static final String MAKING = "LinePair pair = new LinePair();";
    private static final Pattern CALL = Pattern.compile("pair\\.(\\w+)\\(([^)]*)\\); *// ([^:]+): .+");
    private static final Checks CHECKS = new Checks();

    private ReadmeTest() {
    }

    public static void main(String[] args) throws IOException {
        Set<String> called = new HashSet<>();
        boolean inRun = false;
        LinePair pair = null;
        for (String text : Files.readAllLines(Path.of("README.md"))) {
            if (text.startsWith("```")) {
                inRun = text.equals("```java");
            } else if (inRun && text.equals(MAKING)) {
                pair = new LinePair();
            } else if (inRun && !text.isEmpty()) {
                called.add(look(pair, text));
            }
        }
        everyCallIsShown(called);
        CHECKS.end();
    }

    /** The name of the call that the text holds. */
    private static String look(LinePair pair, String text) {
        Matcher parts = CALL.matcher(text);
        boolean isCall = parts.matches();
        CHECKS.same("README.md has a call with its answer in: " + text, isCall && pair != null, true);
        if (!isCall || pair == null) {
            return "";
        }
        String name = parts.group(1);
        String[] arguments = parts.group(2).isEmpty() ? new String[0] : parts.group(2).split(", ");
        CHECKS.same("README.md: " + text, answer(pair, name, arguments), parts.group(3));
        return name;
    }

    private static void everyCallIsShown(Set<String> called) {
        for (Method method : LinePair.class.getDeclaredMethods()) {
            if (Modifier.isPublic(method.getModifiers())) {
                CHECKS.same("README.md calls " + method.getName(), called.contains(method.getName()), true);
            }
        }
    }

    private static String answer(LinePair pair, String name, String[] arguments) {
        try {
            return switch (name) {
                case "line" -> "" + pair.line(number(arguments[0]), Boolean.parseBoolean(arguments[1]));
                case "write" -> "" + pair.write(number(arguments[0]), number(arguments[1]), number(arguments[2]));
                case "read" -> "" + pair.read(number(arguments[0]), number(arguments[1]));
                case "take" -> "" + pair.take();
                case "delivers" -> "" + pair.delivers(number(arguments[0]));
                case "about" -> "" + pair.about(number(arguments[0]), number(arguments[1]));
                case "mode" -> "" + pair.mode(number(arguments[0]), number(arguments[1]));
                case "count" -> "" + pair.count(number(arguments[0]));
                default -> "no such call";
            };
        } catch (RuntimeException e) {
            return e.getClass().getSimpleName();
        }
    }

    private static int number(String text) {
        return Integer.decode(text);
    }
}
