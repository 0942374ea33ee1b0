import java.util.ArrayList;
import java.util.List;
import java.util.function.Supplier;
import java.util.function.ToLongFunction;

/** What the tests share: commons told by items, and what a finding may and may not do. */
final class Scenes {
    static final int BEYOND = -1000001;
    static final int FULL = -1000002;
    static final int KIND = -1000003;
    static final int NONE = -1000004;
    static final int MISSING = -1000006;
    static final int SIZE = -1000007;
    private static final List<String> WORDS =
            List.of("thing", "steeple", "cow", "child", "lover", "bill", "inn");

    private Scenes() {
    }

    /** A common by its calls, without a text; the list tells of nobody, but where the items tell a turn. */
    static CarelessMist of(String items) {
        CarelessMist x = new CarelessMist();
        for (int i = 0; i < 6; i++) {
            x.turn(i, 5, 7);
        }
        for (String item : items.split(";")) {
            String[] w = item.trim().split(" +");
            if (w[0].equals("walker")) {
                int n = x.walker(Integer.parseInt(w[1]), Integer.parseInt(w[2]));
                for (int i = 3; i + 1 < w.length; i += 2) {
                    x.lead(n, w[i].equals("pace") ? 2 : 3, Integer.parseInt(w[i + 1]));
                }
            } else if (w[0].equals("turn")) {
                x.turn(Integer.parseInt(w[1]), Integer.parseInt(w[2]), Integer.parseInt(w[3]));
            } else if (!w[0].isEmpty()) {
                x.thing(WORDS.indexOf(w[0]), Integer.parseInt(w[1]));
            }
        }
        return x;
    }

    static void feed(CarelessMist x, String text) {
        for (int i = 0; i < text.length(); i++) {
            x.feed(text.charAt(i), 1);
        }
    }

    static int text(CarelessMist x, String text) {
        x.wipe();
        feed(x, text);
        return x.text();
    }

    /** All that can be asked of an object but status(), also of what it keeps; the asking spoils it. */
    static List<Integer> stateOf(CarelessMist x) {
        List<Integer> all = new ArrayList<>();
        addCommon(all, x);
        while (x.count(2) < 6) {
            x.walker(0, 0);
        }
        for (int s = 0; s < 4; s++) {
            all.add(x.load(s));
            for (int w = 0; w < 6; w++) {
                all.add(x.ofWalker(w, 3));
            }
        }
        addSheets(all, x);
        all.add(x.text());
        all.add(x.undo());
        addCommon(all, x);
        all.add(x.tear());
        return all;
    }

    private static void addCommon(List<Integer> all, CarelessMist x) {
        for (int what = 0; what < 8; what++) {
            all.add(x.count(what));
        }
        for (int t = 0; t < x.count(1); t++) {
            all.add(x.of(t, 0));
            all.add(x.of(t, 1));
            all.add(x.of(t, 2));
        }
        for (int w = 0; w < x.count(2); w++) {
            for (int what = 0; what < 6; what++) {
                all.add(x.ofWalker(w, what));
            }
        }
        for (int i = 0; i < 6; i++) {
            all.add(x.listed(i));
        }
        for (int spot = 0; spot < 10; spot++) {
            all.add(x.as(spot, 0));
        }
    }

    /** Of how many numbers and of how many bits the sheets are; sheet 3 is spoilt by measuring the others' bits. */
    private static void addSheets(List<Integer> all, CarelessMist x) {
        for (int s = 0; s < 4; s++) {
            int size = 0;
            for (int step = 32; step > 0; step /= 2) {
                size += x.copy(s, 0, s, 0, size + step) >= 0 ? step : 0;
            }
            all.add(size);
        }
        for (int s = 0; s < 3; s++) {
            all.add(x.copy(s, 0, 3, 0, 0));
        }
        for (int bits = 8; bits <= 32; bits *= 2) {
            x.sheet(3, bits, 0);
            for (int s = 0; s < 3; s++) {
                all.add(x.copy(s, 0, 3, 0, 0));
            }
        }
    }

    /** The call answers that finding, counts it alone, and changes nothing else. */
    static void finds(String what, Supplier<CarelessMist> made, int finding, ToLongFunction<CarelessMist> call) {
        CarelessMist x = made.get();
        CarelessMist untouched = made.get();
        for (int which = -1; which < 7; which++) {
            Due.is(what + ": status before", x.status(which), untouched.status(which));
        }
        Due.is(what, call.applyAsLong(x), finding);
        for (int which = -1; which < 7; which++) {
            int more = which == -1 || BEYOND - which == finding ? 1 : 0;
            Due.is(what + ": status(" + which + ")", x.status(which), untouched.status(which) + more);
        }
        Due.is(what + " changes nothing", stateOf(x).equals(stateOf(untouched)) ? 1 : 0, 1);
    }

    /** The call changes nothing at all. */
    static void onlyAsks(String what, Supplier<CarelessMist> made, ToLongFunction<CarelessMist> call) {
        CarelessMist x = made.get();
        CarelessMist untouched = made.get();
        call.applyAsLong(x);
        Due.is(what + " changes nothing", stateOf(x).equals(stateOf(untouched)) ? 1 : 0, 1);
    }
}
