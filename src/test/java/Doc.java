import java.io.IOException;
import java.lang.reflect.Field;
import java.nio.file.Files;
import java.nio.file.Path;
import java.util.ArrayList;
import java.util.LinkedHashMap;
import java.util.List;
import java.util.Map;
import java.util.function.Supplier;
import java.util.function.ToLongFunction;
import java.util.regex.Matcher;
import java.util.regex.Pattern;

/** The sentences of ../shared/DOC.md: the tests say which words they are about, and none may be left over. */
final class Doc {
    static final int TERMS = 0;
    private static final int PROMISES = 43;
    private static final Path PLACE = Path.of("../shared/DOC.md");
    private static final List<Map<String, Integer>> SECTIONS = read();
    private static int section = 0;
    private static String words = "";

    private Doc() {
    }

    /** The checks that follow are about these words, which stand in one sentence of a promise or of the terms. */
    static void about(int newSection, String newWords) {
        section = newSection;
        words = newWords;
        long stands = SECTIONS.get(section).keySet().stream().filter(s -> s.contains(words)).count();
        Due.is("how many sentences in section " + section + " say: " + words, stands, 1);
    }

    static void is(String what, long got, long want) {
        SECTIONS.get(section).replaceAll((s, checks) -> s.contains(words) ? checks + 1 : checks);
        Due.is(label(what), got, want);
    }

    static void finds(String what, Supplier<CarelessMist> made, int finding, ToLongFunction<CarelessMist> call) {
        SECTIONS.get(section).replaceAll((s, checks) -> s.contains(words) ? checks + 1 : checks);
        Scenes.finds(label(what), made, finding, call);
    }

    static void close() {
        for (int s = 0; s <= PROMISES; s++) {
            for (Map.Entry<String, Integer> sentence : SECTIONS.get(s).entrySet()) {
                Due.is("checks of section " + s + ": " + sentence.getKey(), sentence.getValue() > 0 ? 1 : 0, 1);
            }
        }
    }

    private static String label(String what) {
        return (section == TERMS ? "terms" : "" + section) + ", '" + words + "', " + what;
    }

    /** A map a section, from its sentences to how many checks there were; section 0 holds the terms. */
    private static List<Map<String, Integer>> read() {
        String text;
        try {
            text = Files.readString(PLACE);
        } catch (IOException e) {
            throw new IllegalStateException(PLACE + " can't be read", e);
        }
        List<Map<String, Integer>> sections = new ArrayList<>();
        sections.add(sentences(between(text, "## Terms\n", "Ahead of the calls")));
        for (int p = 1; p <= PROMISES; p++) {
            sections.add(sentences(between(text, "## Promise " + p + ": ", "\n## ")));
        }
        return sections;
    }

    private static String between(String text, String from, String to) {
        int begin = text.indexOf('\n', text.indexOf(from));
        return text.substring(begin, text.indexOf(to, begin));
    }

    private static Map<String, Integer> sentences(String text) {
        String plain = text.replaceAll("```(text)?", " ").replaceAll("\n\\d\\. ", " ").replaceAll("\\s+", " ").trim();
        Map<String, Integer> checks = new LinkedHashMap<>();
        Matcher m = Pattern.compile(".+?[^.][.](?= [A-Z]|$)").matcher(plain);
        while (m.find()) {
            checks.put(m.group().trim(), 0);
        }
        return checks;
    }

    /**
     * Makes it another DAY at once: the last DAYS are farther off than 512 calls go. Where the class holds its DAY
     * otherwise, this answers false, and what hangs on it goes untested.
     */
    static boolean makeDay(CarelessMist x, int day) {
        try {
            Field common = CarelessMist.class.getDeclaredField("common");
            common.setAccessible(true);
            Field held = common.get(x).getClass().getDeclaredField("day");
            held.setAccessible(true);
            held.setInt(common.get(x), day);
            return true;
        } catch (ReflectiveOperationException e) {
            System.out.println("DAY can't be made " + day + ": this stays untested: " + words);
            return false;
        }
    }
}
