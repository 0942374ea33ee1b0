import java.lang.reflect.InvocationTargetException;
import java.lang.reflect.Method;
import java.util.ArrayList;
import java.util.Arrays;
import java.util.List;
import java.util.Random;

/** Random runs of calls, each answered by CarelessMist and by the Model. */
final class ModelTests {
    /** A call's name, how often it is drawn, and the least and most of each argument that is asked plainly. */
    private static final class Act {
        final String name;
        final int weight;
        final int[] ends;
        Method real;
        Method model;

        Act(String name, int weight, int... ends) {
            this.name = name;
            this.weight = weight;
            this.ends = ends;
            Class<?>[] types = new Class<?>[ends.length / 2];
            Arrays.fill(types, int.class);
            try {
                real = CarelessMist.class.getMethod(name, types);
                model = Model.class.getDeclaredMethod(name, types);
            } catch (NoSuchMethodException e) {
                throw new IllegalStateException(e);
            }
        }
    }

    private static final Act[] ACTS = {
        new Act("turn", 6, 0, 5, 0, 5, 0, 7), new Act("listed", 3, 0, 5), new Act("thing", 8, 0, 6, 0, 15),
        new Act("walker", 8, 0, 15, 0, 7), new Act("of", 8, 0, 7, 0, 5), new Act("change", 6, 0, 7, 0, 2, 0, 15),
        new Act("ofWalker", 8, 0, 5, 0, 5), new Act("lead", 10, 0, 5, 0, 5, 0, 15), new Act("sees", 4, 0, 5),
        new Act("seenBy", 4, 0, 7), new Act("go", 4, 1, 60), new Act("now", 8, 0, 7),
        new Act("ahead", 5, 0, 7, 1, 2, 0, 100), new Act("later", 5, 0, 5, 0, 5, 0, 100),
        new Act("arrives", 4, 0, 5, 0, 60), new Act("spies", 4, 0, 5, 0, 7), new Act("meet", 4, 0, 5, 0, 5),
        new Act("startFor", 3, 0, 5, 0, 40), new Act("aimFor", 3, 0, 5, 0, 40), new Act("kindFor", 3, 0, 7, 0, 40),
        new Act("paceFor", 3, 0, 5, 0, 40), new Act("giveUp", 1, 0, 5, 0, 20), new Act("fits", 4, 0, 3, 0, 5),
        new Act("kinds", 4, 0, 3, 0, 7), new Act("morning", 3, 1, 20), new Act("odds", 4, 0, 5, 0, 7, 0, 15, 0, 1),
        new Act("seed", 2, -1000000, 1000000), new Act("feed", 3, -1000000000, 1000000000, 1, 4),
        new Act("wipe", 1), new Act("text", 2), new Act("hold", 5, 0, 9, -1, 7), new Act("as", 6, 0, 9, 0, 6),
        new Act("sheet", 4, 0, 3, 0, 32, 0, 12), new Act("write", 12, 0, 3, 0, 11, -1, 260),
        new Act("copy", 6, 0, 3, 0, 11, 0, 3, 0, 11, 0, 12), new Act("load", 2, 0, 3), new Act("judge", 3, 0, 3),
        new Act("image", 2), new Act("undo", 2), new Act("tear", 1), new Act("count", 4, 0, 7),
        new Act("status", 3, -1, 6),
    };
    private static final int[] ODD = {Integer.MIN_VALUE, -1000001, -2, -1, 0, 1, 8, 16, 32, 40, 41, 61, 99, 100,
        101, 127, 128, 200, 255, 256, 9998, 9999, 10000, 65535, 1 << 30, Integer.MAX_VALUE - 1, Integer.MAX_VALUE};
    private static final String[] PARTS = {"thing", "steeple", "cow", "child", "lover", "bill", "inn", "walker",
        "turn", "pace", "cares", ";", " ", "0", "1", "2", "5", "6", "7", "8", "15", "16", "255", "256", "999",
        "1000", "4294967296", "007", "x", "A", "\0", "\u00ff", "\t", "{", "/", ":", "`"};

    private final Random random;
    private final CarelessMist mist = new CarelessMist();
    private final Model model = new Model();
    private final List<String> calls = new ArrayList<>();
    private boolean agrees = true;
    private int made = 0;

    private ModelTests(long number) {
        random = new Random(number);
    }

    static void run(int runs) {
        for (int i = 0; i < runs && Due.failures() < 5; i++) {
            ModelTests t = new ModelTests(i);
            t.runOnce();
            Due.is("model run " + i, t.agrees ? 0 : 1, 0);
        }
    }

    private void runOnce() {
        int oddness = random.nextInt(3) == 0 ? 10 : 60;
        if (random.nextInt(4) != 0) {
            text(people());
        }
        // A text takes 32 calls at most, a way 25, the check at the end 24: all stay within 512.
        for (int i = 0; i < 430 && agrees && made < 450; i++) {
            int what = random.nextInt(60);
            if (what == 0) {
                text(words());
            } else if (what == 1) {
                tellWay();
            } else {
                call(draw(), oddness);
            }
        }
        checkAll();
        if (!agrees) {
            System.out.println(String.join("\n", calls));
        }
    }

    private Act draw() {
        int all = 0;
        for (Act a : ACTS) {
            all += a.weight;
        }
        int d = random.nextInt(all);
        for (Act a : ACTS) {
            d -= a.weight;
            if (d < 0) {
                return a;
            }
        }
        return ACTS[0];
    }

    private void call(Act a, int oddness) {
        int[] args = new int[a.ends.length / 2];
        for (int i = 0; i < args.length; i++) {
            int least = a.ends[2 * i];
            int most = a.ends[2 * i + 1];
            args[i] = least + random.nextInt(most - least + 1);
            int odd = random.nextInt(oddness);
            if (odd == 0) {
                args[i] = ODD[random.nextInt(ODD.length)];
            } else if (odd == 1) {
                args[i] = random.nextBoolean() ? least - 1 : most + 1;
            }
        }
        if (a.name.equals("sheet") && random.nextInt(8) != 0) {
            args[1] = random.nextInt(10) == 0 ? 0 : 8 << random.nextInt(3);
        }
        if (a.name.equals("copy") && random.nextBoolean()) {
            args[2] = args[0];
        }
        if (a.name.equals("lead") && args[1] > 2 && random.nextBoolean()) {
            args[2] = args[1] == 3 ? random.nextInt(256) : 9990 + random.nextInt(11);
        }
        if (a.name.equals("change") && args[1] == 2 && random.nextBoolean()) {
            args[2] = 9990 + random.nextInt(11);
        }
        answer(a, args);
    }

    private void answer(String name, int... args) {
        for (Act a : ACTS) {
            if (a.name.equals(name)) {
                answer(a, args);
            }
        }
    }

    private void answer(Act a, int... args) {
        Object[] boxed = new Object[args.length];
        for (int i = 0; i < args.length; i++) {
            boxed[i] = args[i];
        }
        made++;
        long got = number(a.real, mist, boxed);
        long want = number(a.model, model, boxed);
        calls.add(a.name + Arrays.toString(args) + " answered " + got + ", the model " + want);
        agrees &= got == want;
    }

    private static long number(Method m, Object on, Object[] args) {
        try {
            return ((Number) m.invoke(on, args)).longValue();
        } catch (IllegalAccessException | InvocationTargetException e) {
            throw new IllegalStateException(m.getName() + Arrays.toString(args), e);
        }
    }

    private void text(String text) {
        answer("wipe");
        for (int i = 0; i < text.length(); i += 4) {
            int bytes = 0;
            int n = 0;
            for (; n < 4 && i + n < text.length(); n++) {
                bytes = bytes << 8 | text.charAt(i + n);
            }
            answer("feed", bytes, n);
        }
        answer("text");
    }

    private String people() {
        StringBuilder b = new StringBuilder();
        for (int i = random.nextInt(8); i >= 0; i--) {
            String kind = Model.WORDS.get(random.nextInt(7));
            String item = random.nextBoolean() ? kind + random.nextInt(16)
                    : "walker" + random.nextInt(16) + " " + random.nextInt(8)
                    + (random.nextBoolean() ? "pace" + (1 + random.nextInt(5)) : "")
                    + (random.nextBoolean() ? " cares " + random.nextInt(256) : "");
            b.append(i == 0 ? item : item + ";");
        }
        return b.substring(0, Math.min(120, b.length()));
    }

    private String words() {
        StringBuilder b = new StringBuilder(random.nextBoolean() ? people() : "");
        for (int i = random.nextInt(4); i > 0; i--) {
            String part = PARTS[random.nextInt(PARTS.length)];
            int place = random.nextInt(b.length() + 1);
            b.replace(place, Math.min(b.length(), place + random.nextInt(2)), part);
        }
        return b.substring(0, Math.min(120, b.length()));
    }

    /** A sheet that tells the way somebody really goes, perhaps with a number left out or false. */
    private void tellWay() {
        int who = random.nextInt(6);
        int n = random.nextInt(12);
        boolean walks = random.nextBoolean();
        answer("sheet", 0, 8 << random.nextInt(3), n);
        for (int i = 0; i < n; i++) {
            int cell = walks ? mist.later(who, 0, i + 1) : mist.ahead(who, 1, i + 1);
            made++;
            int same = walks ? model.later(who, 0, i + 1) : model.ahead(who, 1, i + 1);
            agrees &= cell == same;
            answer("write", 0, i, random.nextInt(5) == 0 ? -1 : random.nextInt(30) == 0 ? cell + 1 : cell);
        }
        answer(walks ? "fits" : "kinds", 0, who);
        answer("judge", 0);
    }

    private void checkAll() {
        for (int what = 0; what < 8; what++) {
            answer("count", what);
            answer("now", what);
        }
        for (int which = -1; which < 7; which++) {
            answer("status", which);
        }
    }
}
