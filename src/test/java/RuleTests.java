import java.io.IOException;
import java.lang.reflect.Field;
import java.lang.reflect.Method;
import java.lang.reflect.Modifier;
import java.nio.file.Files;
import java.nio.file.Path;
import java.util.ArrayList;
import java.util.List;
import java.util.Set;
import java.util.TreeSet;

/** The rules of ../shared/LANGUAGE.md that a look at the class and its text can tell. */
final class RuleTests {
    private static final Path SOURCE = Path.of("src/main/java/CarelessMist.java");
    private static final String FACE = "turn:3 listed:1 thing:2 walker:2 of:2 change:3 ofWalker:2 lead:3 sees:1 seenBy:1 "
            + "go:1 now:1 ahead:3 later:3 arrives:2 spies:2 meet:2 startFor:2 aimFor:2 kindFor:2 paceFor:2 giveUp:2 "
            + "fits:2 kinds:2 morning:1 odds:4 seed:1 feed:2 wipe:0 text:0 hold:2 as:2 sheet:3 write:3 copy:5 load:1 "
            + "judge:1 image:0 undo:0 tear:0 count:1 status:1";
    private static final String[] BANNED = {"throw", "throws", "try", "catch", "finally", "synchronized", "assert",
        "float", "double", "record", "yield", "var", "System.currentTimeMillis", "System.nanoTime", "Random", "Thread",
        "package", "native", "transient", "volatile"};

    private RuleTests() {
    }

    static void run() {
        face();
        members();
        words();
    }

    private static void fine(String what, boolean is) {
        Due.is("rule: " + what, is ? 1 : 0, 1);
    }

    private static void face() {
        Set<String> due = new TreeSet<>(List.of(FACE.split(" ")));
        Set<String> got = new TreeSet<>();
        for (Method m : CarelessMist.class.getDeclaredMethods()) {
            if (m.isSynthetic()) {
                continue;
            }
            if (Modifier.isPublic(m.getModifiers())) {
                got.add(m.getName() + ":" + m.getParameterCount());
                boolean isLong = m.getName().equals("odds");
                fine("1, " + m.getName() + "'s type", m.getReturnType() == (isLong ? long.class : int.class));
                for (Class<?> p : m.getParameterTypes()) {
                    fine("1, " + m.getName() + "'s parameters", p == int.class);
                }
            } else {
                fine("1, " + m.getName() + " is private", Modifier.isPrivate(m.getModifiers()));
            }
        }
        Due.is("rule: 1, the face " + got, got.equals(due) ? 1 : 0, 1);
        fine("1, final", Modifier.isFinal(CarelessMist.class.getModifiers()));
        fine("1, one constructor", CarelessMist.class.getConstructors().length == 1
                && CarelessMist.class.getDeclaredConstructors().length == 1);
    }

    private static void members() {
        List<Class<?>> classes = new ArrayList<>(List.of(CarelessMist.class.getDeclaredClasses()));
        fine("11, twelve classes", classes.size() < 12);
        for (Class<?> c : classes) {
            fine("2, " + c + " is static and not public", Modifier.isStatic(c.getModifiers())
                    && !Modifier.isPublic(c.getModifiers()) && !Modifier.isProtected(c.getModifiers()));
            for (Method m : c.getDeclaredMethods()) {
                fine("1, the name " + m.getName(), !(" " + FACE).contains(" " + m.getName() + ":"));
                fine("11, parameters of " + m.getName(), m.getParameterCount() <= 7);
            }
        }
        for (Method m : CarelessMist.class.getDeclaredMethods()) {
            boolean isPrivate = Modifier.isPrivate(m.getModifiers());
            fine("1, the name " + m.getName(), !isPrivate || !(" " + FACE).contains(" " + m.getName() + ":"));
        }
        classes.add(CarelessMist.class);
        for (Class<?> c : classes) {
            int fields = 0;
            for (Field f : c.getDeclaredFields()) {
                boolean isStatic = Modifier.isStatic(f.getModifiers());
                fields += isStatic ? 0 : 1;
                fine("5, " + f.getName(), !isStatic || Modifier.isFinal(f.getModifiers()));
                fine("1, " + f.getName(), c != CarelessMist.class || Modifier.isPrivate(f.getModifiers()));
            }
            fine("11, fields of " + c, fields <= 20);
        }
    }

    private static void words() {
        String text;
        try {
            text = Files.readString(SOURCE);
        } catch (IOException e) {
            fine("the source can be read", false);
            return;
        }
        fine("4, signs of 1 to 127", text.chars().allMatch(c -> c > 0 && c < 128));
        String code = text.replaceAll("(?s)/\\*.*?\\*/", " ").replaceAll("//[^\n]*", " ")
                .replaceAll("\"[^\"\n]*\"", "\"\"").replaceAll("'.'", "' '");
        for (String word : BANNED) {
            fine("6, 10 or 13, " + word, !code.matches("(?s).*\\b" + word.replace(".", "\\.") + "\\b.*"));
        }
        fine("2, no lambda", !code.contains("->") && !code.contains("::"));
        fine("4, imports", code.replaceAll("import java\\.util\\.(Arrays|ArrayList|List|Iterator);", "")
                .matches("(?s)\\s*public final class .*"));
        fine("10, texts joined", !code.matches("(?s).*(\"\\s*\\+|\\+\\s*\").*"));
    }
}
