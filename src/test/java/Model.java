import java.util.ArrayList;
import java.util.Collections;
import java.util.List;
import java.util.Map;
import java.util.TreeMap;
import java.util.TreeSet;
import java.util.function.Predicate;
import java.util.function.Supplier;
import java.util.function.ToIntFunction;
import java.util.regex.Matcher;
import java.util.regex.Pattern;

/** A second, slow CarelessMist, written from the document alone in another style, to compare answers with. */
final class Model {
    static final class Finding extends RuntimeException {
        final int which;

        Finding(int which) {
            super(null, null, false, false);
            this.which = which;
        }
    }

    static final int BEYOND = 0, FULL = 1, KIND = 2, NONE = 3, STATE = 4, MISSING = 5, SIZE = 6;

    /** A kind knows only how it differs from the one it is under. */
    abstract static class Kind {
        abstract int clear();
        abstract int dim(int day, int met);
        abstract int moves(int day);
        abstract boolean touches(boolean cared);
    }

    static class Plain extends Kind {
        int clear() { return 4; }
        int dim(int day, int met) { return 0; }
        int moves(int day) { return 0; }
        boolean touches(boolean cared) { return cared; }
    }

    static class Steeple extends Plain {
        int clear() { return 15; }
        int dim(int day, int met) { return super.dim(day, met) + 1; }
        boolean touches(boolean cared) { return false; }
    }

    static class Inn extends Steeple {
        int clear() { return super.clear() / 2; }
        int dim(int day, int met) { return day % 2 == 1 ? super.dim(day, met) + 1 : super.dim(day, met); }
    }

    static class Cow extends Plain {
        int clear() { return super.clear() + 2; }
        int dim(int day, int met) { return super.dim(day, met) + 1; }
        int moves(int day) { return day % 3 == 0 ? 1 : 0; }
    }

    static class Child extends Cow {
        int clear() { return super.clear() / 2; }
        int dim(int day, int met) { return 0; }
        int moves(int day) { return super.moves(day) + 1; }
        boolean touches(boolean cared) { return true; }
    }

    static class Lover extends Child {
        int clear() { return super.clear() - 1; }
        int dim(int day, int met) { return met >= 3 ? 2 : super.dim(day, met); }
        int moves(int day) { return super.moves(day) * 2; }
        boolean touches(boolean cared) { return !cared; }
    }

    static class Bill extends Plain {
        int clear() { return 0; }
        int dim(int day, int met) { return 5; }
        boolean touches(boolean cared) { return false; }
    }

    static final List<Kind> KINDS =
            List.of(new Plain(), new Steeple(), new Cow(), new Child(), new Lover(), new Bill(), new Inn());
    static final List<String> WORDS = List.of("thing", "steeple", "cow", "child", "lover", "bill", "inn");

    static final class Thing {
        int kind, cell, met;

        Thing(int kind, int cell, int met) {
            this.kind = kind;
            this.cell = cell;
            this.met = met;
        }

        Kind is() { return KINDS.get(kind); }
    }

    static final class Walker {
        int cell, aim, pace = 2, got, strayed;
        TreeSet<Integer> cares = new TreeSet<>();

        Walker(int cell, int aim) {
            this.cell = cell;
            this.aim = aim;
        }
    }

    static final class World {
        int day;
        int z = 1;
        List<Integer> list = new ArrayList<>(Collections.nCopies(6, 0));
        List<Thing> things = new ArrayList<>();
        List<Walker> walkers = new ArrayList<>();
        Map<Integer, Integer> spots = new TreeMap<>();

        World twin() {
            World w = new World();
            w.day = day;
            w.z = z;
            w.list = new ArrayList<>(list);
            for (Thing t : things) {
                w.things.add(new Thing(t.kind, t.cell, t.met));
            }
            for (Walker k : walkers) {
                Walker n = new Walker(k.cell, k.aim);
                n.pace = k.pace;
                n.got = k.got;
                n.strayed = k.strayed;
                n.cares = new TreeSet<>(k.cares);
                w.walkers.add(n);
            }
            w.spots = new TreeMap<>(spots);
            return w;
        }

        boolean sees(Walker w, int t) {
            Thing thing = things.get(t);
            int off = w.cell > thing.cell ? w.cell - thing.cell : thing.cell - w.cell;
            return off <= (w.cares.contains(t) ? thing.is().dim(day, thing.met) : thing.is().clear());
        }

        boolean towards(Walker w) {
            return w.aim < things.size()
                    && walkers.stream().anyMatch(o -> o.cell == w.cell && sees(o, w.aim));
        }

        void passDay() {
            int w = list.get(day % 6) / 10;
            int t = list.get(day % 6) % 10;
            if (w < walkers.size() && t < things.size() && !walkers.get(w).cares.remove(t)) {
                walkers.get(w).cares.add(t);
            }
            for (Walker k : walkers) {
                if (k.aim < things.size()) {
                    walk(k, things.get(k.aim));
                }
            }
            for (Thing thing : things) {
                for (int i = thing.is().moves(day); i > 0; i--) {
                    thing.cell = next(thing.cell);
                }
            }
            day = day == 99999 ? day : day + 1;
        }

        static int next(int cell) {
            return cell == 15 ? 0 : cell + 1;
        }

        void walk(Walker k, Thing to) {
            if (towards(k)) {
                for (int i = 0; i < k.pace && k.cell != to.cell; i++) {
                    k.cell += to.cell > k.cell ? 1 : -1;
                }
            } else {
                k.cell = next(k.cell);
                k.strayed = k.strayed == 9999 ? 9999 : k.strayed + 1;
            }
            if (k.cell == to.cell) {
                k.got = k.got == 9999 ? 9999 : k.got + 1;
                to.met = to.met == 9999 ? 9999 : to.met + 1;
                if (to.is().touches(k.cares.contains(k.aim))) {
                    k.cares.add(k.aim);
                } else {
                    k.cares.remove(k.aim);
                }
            }
        }

        World behind(int n) {
            World w = twin();
            for (int i = 0; i < n; i++) {
                w.passDay();
            }
            return w;
        }

        int got() { return walkers.stream().mapToInt(k -> k.got).sum(); }
        int strayed() { return walkers.stream().mapToInt(k -> k.strayed).sum(); }
    }

    World world = new World();
    World kept = null;
    StringBuilder tape = new StringBuilder();
    int[] bits = new int[4];
    List<List<Integer>> sheets = new ArrayList<>(List.of(List.of(), List.of(), List.of(), List.of()));
    int[] told = new int[7];

    // ---- helpers

    long act(Supplier<Long> a) {
        try {
            return a.get();
        } catch (Finding f) {
            told[f.which]++;
            return -1000001L - f.which;
        }
    }

    int intAct(Supplier<Integer> a) {
        return (int) act(() -> (long) a.get());
    }

    static void need(boolean is, int finding) {
        if (!is) {
            throw new Finding(finding);
        }
    }

    static void range(int v, int least, int most) {
        need(v >= least && v <= most, BEYOND);
    }

    Thing thingAt(int t) {
        range(t, 0, world.things.size() - 1);
        return world.things.get(t);
    }

    Walker walkerAt(int w) {
        range(w, 0, world.walkers.size() - 1);
        return world.walkers.get(w);
    }

    static int set(int most, Predicate<Integer> in) {
        int s = 0;
        for (int i = 0; i < most; i++) {
            s += in.test(i) ? 1 << i : 0;
        }
        return s;
    }

    static TreeSet<Integer> members(int set) {
        TreeSet<Integer> m = new TreeSet<>();
        for (int i = 0; i < 8; i++) {
            if ((set & 1 << i) != 0) {
                m.add(i);
            }
        }
        return m;
    }

    int firstDay(Predicate<World> is) {
        World w = world.twin();
        for (int d = 0; d <= 200; d++) {
            if (is.test(w)) {
                return d;
            }
            w.passDay();
        }
        throw new Finding(NONE);
    }

    static int best(int least, int most, ToIntFunction<Integer> value) {
        int best = least;
        for (int i = least; i <= most; i++) {
            if (value.applyAsInt(i) > value.applyAsInt(best)) {
                best = i;
            }
        }
        return best;
    }

    World with(java.util.function.Consumer<World> change, int n) {
        World w = world.twin();
        change.accept(w);
        return w.behind(n);
    }

    List<Integer> sheetAt(int s) {
        range(s, 0, 3);
        need(bits[s] != 0, MISSING);
        return sheets.get(s);
    }

    // ---- the face

    int turn(int i, int walker, int thing) {
        return intAct(() -> {
            range(i, 0, 5);
            range(walker, 0, 5);
            range(thing, 0, 7);
            return world.list.set(i, walker * 10 + thing);
        });
    }

    int listed(int i) {
        return intAct(() -> {
            range(i, 0, 5);
            return world.list.get(i);
        });
    }

    int thing(int kind, int cell) {
        return intAct(() -> {
            range(kind, 0, 6);
            range(cell, 0, 15);
            need(world.things.size() < 8, FULL);
            world.things.add(new Thing(kind, cell, 0));
            return world.things.size() - 1;
        });
    }

    int walker(int cell, int aim) {
        return intAct(() -> {
            range(cell, 0, 15);
            range(aim, 0, 7);
            need(world.walkers.size() < 6, FULL);
            world.walkers.add(new Walker(cell, aim));
            return world.walkers.size() - 1;
        });
    }

    int of(int thing, int what) {
        return intAct(() -> {
            range(what, 0, 5);
            Thing t = thingAt(thing);
            return List.of(t.kind, t.cell, t.met, t.is().clear(), t.is().dim(world.day, t.met),
                    t.is().moves(world.day)).get(what);
        });
    }

    int change(int thing, int what, int v) {
        return intAct(() -> {
            range(what, 0, 2);
            Thing t = thingAt(thing);
            range(v, 0, List.of(6, 15, 9999).get(what));
            int was = List.of(t.kind, t.cell, t.met).get(what);
            world.things.set(thing, new Thing(what == 0 ? v : t.kind, what == 1 ? v : t.cell, what == 2 ? v : t.met));
            return was;
        });
    }

    static int fieldOf(Walker w, int what) {
        return List.of(w.cell, w.aim, w.pace, w.cares.stream().mapToInt(t -> 1 << t).sum(), w.got, w.strayed)
                .get(what);
    }

    int ofWalker(int walker, int what) {
        return intAct(() -> {
            range(what, 0, 5);
            return fieldOf(walkerAt(walker), what);
        });
    }

    int lead(int walker, int what, int v) {
        return intAct(() -> {
            range(what, 0, 5);
            Walker w = walkerAt(walker);
            int was = fieldOf(w, what);
            switch (what) {
                case 0: range(v, 0, 15); w.cell = v; break;
                case 1: range(v, 0, 7); w.aim = v; break;
                case 2: range(v, 1, 5); w.pace = v; break;
                case 3: range(v, 0, 255); w.cares = members(v); break;
                case 4: range(v, 0, 9999); w.got = v; break;
                default: range(v, 0, 9999); w.strayed = v; break;
            }
            return was;
        });
    }

    int sees(int walker) {
        return intAct(() -> {
            Walker w = walkerAt(walker);
            return set(world.things.size(), t -> world.sees(w, t));
        });
    }

    int seenBy(int thing) {
        return intAct(() -> {
            thingAt(thing);
            return set(world.walkers.size(), w -> world.sees(world.walkers.get(w), thing));
        });
    }

    int go(int n) {
        return intAct(() -> {
            range(n, 1, 60);
            need(world.day + n <= 99999, STATE);
            world = world.behind(n);
            return world.got();
        });
    }

    int now(int what) {
        return intAct(() -> {
            range(what, 0, 7);
            List<Walker> ws = world.walkers;
            int ts = world.things.size();
            return List.<Supplier<Integer>>of(
                () -> world.day,
                () -> world.got(),
                () -> world.strayed(),
                () -> set(ws.size(), w -> world.towards(ws.get(w))),
                () -> set(ts, t -> ws.stream().anyMatch(w -> w.cares.contains(t))),
                () -> set(16, c -> ws.stream().anyMatch(w -> w.cell == c)),
                () -> set(16, c -> world.things.stream().anyMatch(t -> t.cell == c)),
                () -> set(ts, t -> ws.stream().noneMatch(w -> world.sees(w, t)))).get(what).get();
        });
    }

    int ahead(int thing, int what, int n) {
        return intAct(() -> {
            range(what, 1, 2);
            range(n, 0, 100);
            thingAt(thing);
            Thing t = world.behind(n).things.get(thing);
            return what == 1 ? t.cell : t.met;
        });
    }

    int later(int walker, int what, int n) {
        return intAct(() -> {
            need(List.of(0, 3, 4, 5).contains(what), BEYOND);
            range(n, 0, 100);
            walkerAt(walker);
            return fieldOf(world.behind(n).walkers.get(walker), what);
        });
    }

    int arrives(int walker, int v) {
        return intAct(() -> {
            walkerAt(walker);
            range(v, 0, 9999);
            return firstDay(w -> w.walkers.get(walker).got >= v);
        });
    }

    int spies(int walker, int thing) {
        return intAct(() -> {
            walkerAt(walker);
            thingAt(thing);
            return firstDay(w -> w.sees(w.walkers.get(walker), thing));
        });
    }

    int meet(int a, int b) {
        return intAct(() -> {
            walkerAt(a);
            walkerAt(b);
            need(a != b, BEYOND);
            return firstDay(w -> w.walkers.get(a).cell == w.walkers.get(b).cell);
        });
    }

    int startFor(int walker, int n) {
        return intAct(() -> {
            walkerAt(walker);
            range(n, 0, 40);
            return best(0, 15, c -> with(w -> w.walkers.get(walker).cell = c, n).walkers.get(walker).got);
        });
    }

    int aimFor(int walker, int n) {
        return intAct(() -> {
            walkerAt(walker);
            range(n, 0, 40);
            return best(0, 7, a -> with(w -> w.walkers.get(walker).aim = a, n).walkers.get(walker).got);
        });
    }

    int kindFor(int thing, int n) {
        return intAct(() -> {
            thingAt(thing);
            range(n, 0, 40);
            return best(0, 6, k -> with(w -> w.things.get(thing).kind = k, n).things.get(thing).met);
        });
    }

    int paceFor(int walker, int n) {
        return intAct(() -> {
            int got = walkerAt(walker).got;
            range(n, 0, 40);
            for (int p = 1; p <= 5; p++) {
                int pace = p;
                if (with(w -> w.walkers.get(walker).pace = pace, n).walkers.get(walker).got > got) {
                    return p;
                }
            }
            throw new Finding(NONE);
        });
    }

    int giveUp(int walker, int n) {
        return intAct(() -> {
            int got = walkerAt(walker).got;
            range(n, 0, 20);
            for (int size = 0; size <= 8; size++) {
                for (int s = 0; s < 256; s++) {
                    TreeSet<Integer> given = members(s);
                    if (given.size() == size && with(w -> w.walkers.get(walker).cares.removeAll(given), n)
                            .walkers.get(walker).got > got) {
                        return s;
                    }
                }
            }
            throw new Finding(NONE);
        });
    }

    static boolean asTold(World w, List<Integer> told, ToIntFunction<World> cell) {
        for (int number : told) {
            w.passDay();
            if (number != -1 && number != cell.applyAsInt(w)) {
                return false;
            }
        }
        return true;
    }

    int fits(int s, int walker) {
        return intAct(() -> {
            List<Integer> told = sheetAt(s);
            walkerAt(walker);
            return set(16, c -> asTold(with(w -> w.walkers.get(walker).cell = c, 0), told,
                    w -> w.walkers.get(walker).cell));
        });
    }

    int kinds(int s, int thing) {
        return intAct(() -> {
            List<Integer> told = sheetAt(s);
            thingAt(thing);
            return set(7, k -> asTold(with(w -> w.things.get(thing).kind = k, 0), told,
                    w -> w.things.get(thing).cell));
        });
    }

    int draw() {
        world.z = world.z * 1103515245 + 12345;
        return world.z >>> 8;
    }

    int morning(int n) {
        return intAct(() -> {
            range(n, 1, 20);
            need(world.day + n <= 99999, STATE);
            for (int i = 0; i < n; i++) {
                int w = draw() % 6;
                int t = draw() % 8;
                world.list.set(world.day % 6, Integer.parseInt(w + "" + t));
                world.passDay();
            }
            return world.got();
        });
    }

    long odds(int walker, int thing, int n, int what) {
        return act(() -> {
            walkerAt(walker);
            thingAt(thing);
            range(n, 0, 15);
            range(what, 0, 1);
            int seen = Integer.bitCount(set(16, c -> {
                World w = with(x -> x.walkers.get(walker).cell = c, 0);
                return w.sees(w.walkers.get(walker), thing);
            }));
            java.math.BigInteger above = java.math.BigInteger.valueOf(seen).pow(n);
            java.math.BigInteger below = java.math.BigInteger.valueOf(16).pow(n);
            return (what == 0 ? above : below).divide(above.gcd(below)).longValueExact();
        });
    }

    int seed(int v) {
        int was = world.z;
        world.z = v;
        return was;
    }

    int feed(int bytes, int n) {
        return intAct(() -> {
            range(n, 1, 4);
            need(tape.length() + n <= 120, FULL);
            String four = new String(new char[] {(char) (bytes >>> 24), (char) (bytes >>> 16 & 255),
                (char) (bytes >>> 8 & 255), (char) (bytes & 255)});
            tape.append(four.substring(4 - n));
            return tape.length();
        });
    }

    int wipe() {
        int had = tape.length();
        tape.setLength(0);
        return had;
    }

    static final Pattern TOKEN = Pattern.compile(" *([a-z]+|[0-9]+|;|[^ ]|$)", Pattern.DOTALL);

    static final class Fault extends Exception {
        Fault() {
            super(null, null, false, false);
        }
    }

    List<String> tokens;
    List<Integer> places;
    int at;

    int text() {
        tokens = new ArrayList<>();
        places = new ArrayList<>();
        Matcher m = TOKEN.matcher(tape);
        while (m.find()) {
            tokens.add(m.group(1));
            places.add(m.start(1));
        }
        tokens.add("");
        places.add(tape.length());
        tape.setLength(0);
        World w = world.twin();
        at = 0;
        int items = 0;
        try {
            do {
                item(w);
                items++;
            } while (tokens.get(at++).equals(";"));
            at--;
            word(tokens.get(at).isEmpty());
        } catch (Fault f) {
            return -1 - places.get(at);
        }
        world = w;
        return items;
    }

    static void word(boolean can) throws Fault {
        if (!can) {
            throw new Fault();
        }
    }

    int number(int least, int most) throws Fault {
        String t = tokens.get(at);
        word(t.matches("[0-9]+"));
        java.math.BigInteger v = new java.math.BigInteger(t);
        word(v.bitLength() < 20 && v.intValue() >= least && v.intValue() <= most);
        at++;
        return v.intValue();
    }

    void item(World w) throws Fault {
        String t = tokens.get(at);
        if (t.equals("turn")) {
            at++;
            int i = number(0, 5);
            int k = number(0, 5);
            w.list.set(i, k * 10 + number(0, 7));
        } else if (t.equals("walker")) {
            word(w.walkers.size() < 6);
            at++;
            int cell = number(0, 15);
            Walker k = new Walker(cell, number(0, 7));
            if (tokens.get(at).equals("pace")) {
                at++;
                k.pace = number(1, 5);
            }
            if (tokens.get(at).equals("cares")) {
                at++;
                k.cares = members(number(0, 255));
            }
            w.walkers.add(k);
        } else {
            word(WORDS.contains(t) && w.things.size() < 8);
            at++;
            w.things.add(new Thing(WORDS.indexOf(t), number(0, 15), 0));
        }
    }

    int hold(int spot, int thing) {
        return intAct(() -> {
            range(spot, 0, 9);
            range(thing, -1, world.things.size() - 1);
            world.spots.put(spot, thing);
            world.spots.values().remove(-1);
            return 1;
        });
    }

    int as(int spot, int kind) {
        return intAct(() -> {
            range(spot, 0, 9);
            range(kind, 0, 6);
            need(world.spots.containsKey(spot), MISSING);
            int t = world.spots.get(spot);
            need(KINDS.get(kind).getClass().isInstance(world.things.get(t).is()), KIND);
            return t;
        });
    }

    int sheet(int s, int b, int n) {
        return intAct(() -> {
            range(s, 0, 3);
            need(List.of(0, 8, 16, 32).contains(b), BEYOND);
            need(n >= 0, SIZE);
            need(n <= 40, BEYOND);
            bits[s] = b;
            sheets.set(s, new ArrayList<>(Collections.nCopies(b == 0 ? 0 : n, 0)));
            return b == 0 ? 0 : n;
        });
    }

    int write(int s, int i, int v) {
        return intAct(() -> {
            List<Integer> sheet = sheetAt(s);
            range(i, 0, sheet.size() - 1);
            sheet.set(i, v << 32 - bits[s] >> 32 - bits[s]);
            return 1;
        });
    }

    int copy(int s, int from, int t, int to, int n) {
        return intAct(() -> {
            range(s, 0, 3);
            range(t, 0, 3);
            List<Integer> a = sheetAt(s);
            List<Integer> b = sheetAt(t);
            need(bits[s] == bits[t], KIND);
            need(from >= 0 && to >= 0 && n >= 0, BEYOND);
            need((long) from + n <= a.size() && (long) to + n <= b.size(), BEYOND);
            List<Integer> as = new ArrayList<>(a);
            for (int i = 0; i < n; i++) {
                b.set(to + i, as.get(from + i));
            }
            return n;
        });
    }

    int load(int s) {
        return intAct(() -> {
            int came = 0;
            for (int v : sheetAt(s)) {
                if (v < 0 || v > 255 || came == world.walkers.size()) {
                    break;
                }
                world.walkers.get(came++).cares = members(v);
            }
            return came;
        });
    }

    int judge(int s) {
        return intAct(() -> {
            List<Integer> sheet = sheetAt(s);
            for (int i = 0; i < sheet.size(); i++) {
                if (i >= world.walkers.size() || world.walkers.get(i).cell != sheet.get(i)) {
                    return i + 1;
                }
            }
            return 0;
        });
    }

    int image() {
        kept = world.twin();
        return 1;
    }

    int undo() {
        return intAct(() -> {
            need(kept != null, NONE);
            world = kept.twin();
            return world.day;
        });
    }

    int tear() {
        int had = kept == null ? 0 : 1;
        kept = null;
        return had;
    }

    int count(int what) {
        return intAct(() -> {
            range(what, 0, 7);
            return List.of(world.day, world.things.size(), world.walkers.size(), world.got(), world.strayed(),
                    tape.length(), world.z, world.spots.size()).get(what);
        });
    }

    int status(int which) {
        return intAct(() -> {
            range(which, -1, 6);
            int all = 0;
            for (int f : told) {
                all += f;
            }
            return which == -1 ? all : told[which];
        });
    }
}
