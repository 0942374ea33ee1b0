import java.io.IOException;
import java.lang.reflect.InvocationTargetException;
import java.lang.reflect.Method;
import java.lang.reflect.Modifier;
import java.nio.file.Files;
import java.nio.file.Path;
import java.util.regex.Matcher;
import java.util.regex.Pattern;

/** README.md's example is run and must answer what it says; its lists must tell every call and every finding. */
final class ReadmeTests {
    private static final Path README = Path.of("README.md");
    private static final Pattern CALL = Pattern.compile("x\\.(\\w+)\\(([-0-9a-fx, ]*)\\); +// (-?\\d+)(: .+)?");
    private static final String[] FINDINGS = {"BEYOND", "FULL", "KIND", "NONE", "STATE", "MISSING", "SIZE"};

    private ReadmeTests() {
    }

    static void run() {
        String text;
        try {
            text = Files.readString(README);
        } catch (IOException e) {
            Due.is("README.md can be read", 0, 1);
            return;
        }
        example(text);
        calls(text);
        findings(text);
    }

    private static void example(String text) {
        int begin = text.indexOf("```java\n");
        int end = text.indexOf("\n```", begin + 1);
        Due.is("README.md has an example", 0 <= begin && begin < end ? 1 : 0, 1);
        if (begin < 0 || end < begin) {
            return;
        }
        CarelessMist x = new CarelessMist();
        String[] lines = text.substring(begin + "```java\n".length(), end).split("\n");
        Due.is("README.md: " + lines[0], lines[0].equals("CarelessMist x = new CarelessMist();") ? 1 : 0, 1);
        for (int i = 1; i < lines.length; i++) {
            Matcher m = CALL.matcher(lines[i]);
            boolean told = m.matches();
            Due.is("README.md tells a call and its answer: " + lines[i], told ? 1 : 0, 1);
            if (told) {
                Due.is("README.md: " + lines[i], answer(x, m.group(1), m.group(2)), Long.parseLong(m.group(3)));
            }
        }
    }

    private static long answer(CarelessMist x, String name, String list) {
        String[] words = list.isBlank() ? new String[0] : list.trim().split(" *, *");
        Object[] args = new Object[words.length];
        for (int i = 0; i < words.length; i++) {
            args[i] = Integer.decode(words[i]);
        }
        for (Method m : CarelessMist.class.getMethods()) {
            if (m.getName().equals(name) && m.getParameterCount() == args.length) {
                try {
                    return ((Number) m.invoke(x, args)).longValue();
                } catch (IllegalAccessException | InvocationTargetException e) {
                    throw new IllegalStateException(name, e);
                }
            }
        }
        return Long.MIN_VALUE;
    }

    private static void calls(String text) {
        for (Method m : CarelessMist.class.getDeclaredMethods()) {
            if (!Modifier.isPublic(m.getModifiers())) {
                continue;
            }
            Matcher told = Pattern.compile("`" + m.getName() + "\\(([^()]*)\\)`").matcher(text);
            boolean found = told.find();
            Due.is("README.md lists " + m.getName(), found ? 1 : 0, 1);
            if (found) {
                int params = told.group(1).isBlank() ? 0 : told.group(1).split(",").length;
                Due.is("README.md: parameters of " + m.getName(), params, m.getParameterCount());
            }
        }
    }

    private static void findings(String text) {
        for (int f = 0; f < FINDINGS.length; f++) {
            String row = "| " + (Scenes.BEYOND - f) + " | " + FINDINGS[f] + " |";
            Due.is("README.md lists: " + row, text.contains(row) ? 1 : 0, 1);
        }
    }
}
