import java.util.function.Supplier;

/** Promises 32 to 43, sentence by sentence, at their boundaries. */
final class KeepEdges {
    private static final int MIN = Integer.MIN_VALUE;
    private static final int MAX = Integer.MAX_VALUE;
    private static final int[] NO_SHEETS = {-1, 4, MIN, MAX};
    private static final String[] KINDS = {"thing", "steeple", "cow", "child", "lover", "bill", "inn"};
    private static final Supplier<CarelessMist> SMALL = () -> Scenes.of("cow 1; cow 5; walker 3 0; walker 4 1");

    private KeepEdges() {
    }

    static void run() {
        hold();
        as();
        sheet();
        sheetRefused();
        write();
        copy();
        copyRefused();
        load();
        judge();
        image();
        undo();
        tear();
        count();
        status();
    }

    // ---- spots

    private static void hold() {
        Doc.about(32, "A SPOT holds a THING, or nothing (-1): 1.");
        CarelessMist x = SMALL.get();
        for (int spot : new int[] {0, 9}) {
            Doc.is("nothing, where nothing is", x.hold(spot, -1), 1);
            Doc.is("it holds nothing", x.as(spot, 0), Scenes.MISSING);
            Doc.is("the first THING", x.hold(spot, 0), 1);
            Doc.is("it holds it", x.as(spot, 0), 0);
            Doc.is("the last THING instead", x.hold(spot, 1), 1);
            Doc.is("it holds that", x.as(spot, 0), 1);
        }
        Doc.is("two SPOTS may hold the same", x.count(7), 2);
        Doc.is("nothing any more", x.hold(9, -1), 1);
        Doc.is("the other one still does", x.as(0, 0), 1);
        Doc.is("one is left", x.count(7), 1);

        Doc.about(32, "BEYOND.");
        for (int[] w : new int[][] {{-1, 0}, {10, 0}, {-1, -1}, {10, -1}, {0, -2}, {0, 2}, {MIN, 0}, {MAX, 0}, {0, MIN},
            {0, MAX}}) {
            Doc.finds(w[0] + ", " + w[1], SMALL, Scenes.BEYOND, o -> o.hold(w[0], w[1]));
        }
        Doc.finds("no THINGS", CarelessMist::new, Scenes.BEYOND, o -> o.hold(0, 0));
        Doc.is("nothing can be held though", new CarelessMist().hold(0, -1), 1);
    }

    /** SPOT 4 holds THING 1, of that kind. */
    private static CarelessMist holding(int kind) {
        CarelessMist x = Scenes.of("cow 1; " + KINDS[kind] + " 5; walker 3 0");
        x.hold(4, 1);
        return x;
    }

    private static void as() {
        Doc.about(33, "What a SPOT holds as one of a kind (0 to 6): the number of the THING.");
        int[][] can = {{0}, {0, 1}, {0, 2}, {0, 2, 3}, {0, 2, 3, 4}, {0, 5}, {0, 1, 6}};
        for (int kind = 0; kind < 7; kind++) {
            for (int as : can[kind]) {
                Doc.is(KINDS[kind] + " as " + KINDS[as], holding(kind).as(4, as), 1);
            }
        }
        CarelessMist x = holding(2);
        x.hold(0, 0);
        x.hold(9, 1);
        Doc.is("THING 0 in SPOT 0", x.as(0, 2), 0);
        Doc.is("THING 1 in SPOT 9", x.as(9, 2), 1);
        x.change(1, 0, 4);
        Doc.is("as the KIND is by then", x.as(9, 4), 1);

        Doc.about(33, "BEYOND.");
        for (int[] w : new int[][] {{-1, 0}, {10, 0}, {4, -1}, {4, 7}, {3, -1}, {3, 7}, {MIN, 0}, {MAX, 0}, {4, MIN},
            {4, MAX}}) {
            Doc.finds(w[0] + ", " + w[1], () -> holding(0), Scenes.BEYOND, o -> o.as(w[0], w[1]));
        }

        Doc.about(33, "MISSING: it holds nothing.");
        for (int kind = 0; kind < 7; kind++) {
            int as = kind;
            Doc.finds("never held, as " + KINDS[kind], () -> holding(0), Scenes.MISSING, o -> o.as(5, as));
        }
        Doc.finds("held no more", () -> {
            CarelessMist y = holding(0);
            y.hold(4, -1);
            return y;
        }, Scenes.MISSING, o -> o.as(4, 0));

        Doc.about(33, "KIND: it isn't of that kind, nor of one under it.");
        for (int kind = 0; kind < 7; kind++) {
            int k = kind;
            for (int as = 0; as < 7; as++) {
                int a = as;
                if (java.util.Arrays.stream(can[kind]).noneMatch(c -> c == a)) {
                    Doc.finds(KINDS[kind] + " as " + KINDS[as], () -> holding(k), Scenes.KIND, o -> o.as(4, a));
                }
            }
        }
    }

    // ---- sheets

    private static void sheet() {
        Doc.about(34, "A sheet has n numbers, all 0, of 8, 16 or 32 bits; bits 0: it is MISSING: n (0 if it is MISSING).");
        for (int s = 0; s < 4; s++) {
            for (int bits : new int[] {8, 16, 32}) {
                CarelessMist x = Scenes.of("walker 0 0; walker 0 0; walker 0 0");
                Doc.is("0 numbers", x.sheet(s, bits, 0), 0);
                Doc.is("none", x.write(s, 0, 0), Scenes.BEYOND);
                Doc.is("that isn't MISSING", x.judge(s), 0);
                Doc.is("1 number", x.sheet(s, bits, 1), 1);
                Doc.is("one", x.write(s, 0, 5), 1);
                Doc.is("no second", x.write(s, 1, 5), Scenes.BEYOND);
                Doc.is("40 numbers", x.sheet(s, bits, 40), 40);
                Doc.is("the last one", x.write(s, 39, 5), 1);
                Doc.is("none behind it", x.write(s, 40, 5), Scenes.BEYOND);
                x.write(s, 2, 5);
                Doc.is("3 numbers", x.sheet(s, bits, 3), 3);
                Doc.is("all 0", x.judge(s), 0);
                x.write(s, 2, 7);
                Doc.is("3 numbers again", x.sheet(s, bits, 3), 3);
                Doc.is("all 0 again", x.judge(s), 0);
                x.write(s, 0, 7);
                Doc.is("MISSING", x.sheet(s, 0, 40), 0);
                Doc.is("it is", x.write(s, 0, 1), Scenes.MISSING);
                Doc.is("MISSING again", x.sheet(s, 0, 0), 0);
                Doc.is("it still is", x.judge(s), Scenes.MISSING);
                Doc.is("back", x.sheet(s, bits, 3), 3);
                Doc.is("all 0 then", x.judge(s), 0);
            }
        }
        CarelessMist two = Scenes.of("walker 7 0");
        two.sheet(0, 8, 1);
        two.sheet(1, 8, 1);
        two.write(0, 0, 7);
        Doc.is("one is not the other", two.judge(1), 1);
        two.sheet(1, 0, 0);
        Doc.is("the other one stays", two.judge(0), 0);
    }

    private static void sheetRefused() {
        Doc.about(34, "BEYOND: no such sheet, other bits.");
        for (int s : NO_SHEETS) {
            Doc.finds("sheet " + s, KeepTests::sheets, Scenes.BEYOND, o -> o.sheet(s, 8, 1));
            Doc.finds("sheet " + s + ", to be MISSING", KeepTests::sheets, Scenes.BEYOND, o -> o.sheet(s, 0, 1));
            Doc.finds("sheet " + s + ", below 0 numbers", KeepTests::sheets, Scenes.BEYOND, o -> o.sheet(s, 8, -1));
        }
        for (int bits : new int[] {-1, 1, 7, 9, 15, 17, 24, 31, 33, 64, -8, -16, -32, MIN, MAX}) {
            Doc.finds(bits + " bits", KeepTests::sheets, Scenes.BEYOND, o -> o.sheet(0, bits, 1));
            Doc.finds(bits + " bits, below 0 numbers", KeepTests::sheets, Scenes.BEYOND, o -> o.sheet(0, bits, -1));
        }

        Doc.about(34, "SIZE: n is below 0 (also with bits 0).");
        for (int bits : new int[] {0, 8, 16, 32}) {
            for (int n : new int[] {-1, MIN}) {
                Doc.finds(n + " of " + bits + " bits", KeepTests::sheets, Scenes.SIZE, o -> o.sheet(0, bits, n));
                Doc.finds(n + " of " + bits + " bits, a MISSING one", KeepTests::sheets, Scenes.SIZE,
                        o -> o.sheet(3, bits, n));
            }
        }

        Doc.about(34, "BEYOND: n is above 40 (also with bits 0).");
        for (int bits : new int[] {0, 8, 16, 32}) {
            for (int n : new int[] {41, MAX}) {
                Doc.finds(n + " of " + bits + " bits", KeepTests::sheets, Scenes.BEYOND, o -> o.sheet(0, bits, n));
                Doc.finds(n + " of " + bits + " bits, a MISSING one", KeepTests::sheets, Scenes.BEYOND,
                        o -> o.sheet(3, bits, n));
            }
        }
    }

    private static void write() {
        Doc.about(35, "Number i of a sheet becomes v (its lowest bits): 1.");
        // What the number is, where it can be told: as a set (0 to 255), or -1 as any CELL; else NONE of both.
        int none = -1000;
        int[][] due = {{8, 0, 0}, {8, 127, 127}, {8, 128, none}, {8, 255, -1}, {8, 256, 0}, {8, 257, 1}, {8, -1, -1},
            {8, -256, 0}, {8, -255, 1}, {8, MAX, -1}, {8, MIN, 0}, {16, 255, 255}, {16, 256, none}, {16, 32767, none},
            {16, 65535, -1}, {16, 65536, 0}, {16, 65537, 1}, {16, -65535, 1}, {16, MAX, -1}, {16, MIN, 0},
            {32, 255, 255}, {32, 256, none}, {32, 65535, none}, {32, 65536, none}, {32, -1, -1}, {32, MAX, none},
            {32, MIN, none}};
        for (int[] d : due) {
            CarelessMist x = Scenes.of("walker 3 7");
            x.sheet(0, d[0], 1);
            Doc.is(d[1] + " of " + d[0] + " bits", x.write(0, 0, d[1]), 1);
            Doc.is(d[1] + " of " + d[0] + " bits, any", x.fits(0, 0), d[2] == -1 ? 65535 : d[2] == 0 || d[2] == 1 ? d[2] + 1
                    : 0);
            Doc.is(d[1] + " of " + d[0] + " bits, a set", x.load(0), d[2] >= 0 ? 1 : 0);
            Doc.is(d[1] + " of " + d[0] + " bits, that set", x.ofWalker(0, 3), Math.max(0, d[2]));
        }
        CarelessMist y = KeepTests.sheets();
        Doc.is("the first number", y.write(0, 0, 9), 1);
        Doc.is("the last number", y.write(0, 4, 8), 1);
        KeepTests.holds("35: all others stay", y, 0, 9, 2, 3, 4, 8);

        Doc.about(35, "BEYOND: no such sheet.");
        for (int s : NO_SHEETS) {
            Doc.finds("" + s, KeepTests::sheets, Scenes.BEYOND, o -> o.write(s, 0, 9));
        }

        Doc.about(35, "MISSING.");
        Doc.finds("a number", KeepTests::sheets, Scenes.MISSING, o -> o.write(3, 0, 9));
        Doc.finds("no such number", KeepTests::sheets, Scenes.MISSING, o -> o.write(3, -1, 9));

        Doc.about(35, "BEYOND: no such number.");
        for (int i : new int[] {-1, 5, 40, MIN, MAX}) {
            Doc.finds("" + i, KeepTests::sheets, Scenes.BEYOND, o -> o.write(0, i, 9));
        }
        Doc.finds("of none", () -> {
            CarelessMist x = KeepTests.sheets();
            x.sheet(3, 8, 0);
            return x;
        }, Scenes.BEYOND, o -> o.write(3, 0, 9));
    }

    private static void copy() {
        Doc.about(36, "n numbers of a sheet from one on come to another one from one on (as they all were): n.");
        CarelessMist x = KeepTests.sheets();
        Doc.is("all there is room for", x.copy(0, 0, 1, 0, 3), 3);
        KeepTests.holds("36: to the begin", x, 1, 1, 2, 3);
        Doc.is("the last ones", x.copy(0, 2, 1, 0, 3), 3);
        KeepTests.holds("36: from the end", x, 1, 3, 4, 5);
        Doc.is("one to the end", x.copy(0, 0, 1, 2, 1), 1);
        KeepTests.holds("36: to the end", x, 1, 3, 4, 1);
        Doc.is("none", x.copy(0, 0, 1, 0, 0), 0);
        Doc.is("none behind the last ones", x.copy(0, 5, 1, 3, 0), 0);
        KeepTests.holds("36: none came", x, 1, 3, 4, 1);
        KeepTests.holds("36: where they come from they stay", x, 0, 1, 2, 3, 4, 5);
        Doc.is("one on, on itself", x.copy(0, 0, 0, 1, 4), 4);
        KeepTests.holds("36: as they all were, one on", x, 0, 1, 1, 2, 3, 4);
        Doc.is("one back, on itself", x.copy(0, 1, 0, 0, 4), 4);
        KeepTests.holds("36: as they all were, one back", x, 0, 1, 2, 3, 4, 4);
        Doc.is("all on itself", x.copy(0, 0, 0, 0, 5), 5);
        KeepTests.holds("36: all as before", x, 0, 1, 2, 3, 4, 4);
        for (int bits : new int[] {8, 16, 32}) {
            CarelessMist y = Scenes.of("walker 3 7");
            y.sheet(2, bits, 40);
            y.sheet(3, bits, 40);
            y.write(2, 0, -1);
            y.write(2, 39, 77);
            Doc.is("all 40", y.copy(2, 0, 3, 0, 40), 40);
            Doc.is("from the last one", y.copy(3, 39, 2, 1, 1), 1);
            Doc.is("back", y.copy(2, 1, 2, 0, 1), 1);
            Doc.is("it came", 1000 * y.load(2) + y.ofWalker(0, 3), 1077);
            y.sheet(2, bits, 1);
            Doc.is("the first one", y.copy(3, 0, 2, 0, 1), 1);
            Doc.is("with its sign", y.fits(2, 0), 65535);
        }
    }

    private static void copyFinds(int finding, int[]... wrong) {
        for (int[] w : wrong) {
            Doc.finds(w[0] + ", " + w[1] + ", " + w[2] + ", " + w[3] + ", " + w[4], KeepTests::sheets, finding,
                    o -> o.copy(w[0], w[1], w[2], w[3], w[4]));
        }
    }

    private static void copyRefused() {
        Doc.about(36, "BEYOND: no such sheet (either).");
        for (int s : NO_SHEETS) {
            copyFinds(Scenes.BEYOND, new int[][] {{s, 0, 0, 0, 1}, {0, 0, s, 0, 1}, {s, 0, s, 0, 1}, {s, 0, 3, 0, 1},
                {3, 0, s, 0, 1}});
        }
        Doc.about(36, "MISSING: one is.");
        copyFinds(Scenes.MISSING, new int[][] {{3, 0, 0, 0, 1}, {0, 0, 3, 0, 1}, {3, 0, 3, 0, 1}, {3, -1, 2, 0, 1},
            {2, 0, 3, 0, MAX}, {3, 0, 0, 0, 0}});
        Doc.about(36, "KIND: they are not of as many bits.");
        copyFinds(Scenes.KIND, new int[][] {{0, 0, 2, 0, 1}, {2, 0, 0, 0, 1}, {0, 0, 2, 0, 0}, {0, -1, 2, 0, 1},
            {2, 0, 1, 0, 99}});
        Doc.about(36, "BEYOND: one has not so many, or from, to or n is below 0.");
        copyFinds(Scenes.BEYOND, new int[][] {{0, 0, 1, 0, 4}, {1, 0, 0, 0, 4}, {0, 3, 1, 0, 3}, {1, 0, 0, 3, 3},
            {0, 5, 1, 0, 1}, {0, 0, 1, 3, 1}, {0, 6, 1, 0, 0}, {0, 0, 1, 4, 0}, {0, -1, 1, 0, 1}, {0, 0, 1, -1, 1},
            {0, 0, 1, 0, -1}, {0, -1, 1, 0, 0}, {0, 0, 1, -1, 0}, {0, 1, 0, 0, 5}, {0, 0, 0, 1, 5}, {0, MAX, 1, 0, 1},
            {0, 0, 1, MAX, 1}, {0, 0, 1, 0, MAX}, {0, 1, 1, 1, MAX}, {0, MAX, 1, MAX, MAX}, {0, MIN, 1, 0, 1},
            {0, 0, 1, MIN, 1}, {0, 0, 1, 0, MIN}, {0, MIN, 1, MIN, MIN}, {0, MAX, 1, 0, 2}, {0, 2, 1, 0, MAX - 1}});
    }

    private static CarelessMist told(int bits, int... numbers) {
        CarelessMist x = Scenes.of("walker 0 7; walker 0 7; walker 0 7; walker 0 7; walker 0 7");
        x.sheet(0, bits, numbers.length);
        for (int i = 0; i < numbers.length; i++) {
            x.write(0, i, numbers[i]);
        }
        return x;
    }

    private static void load() {
        Doc.about(37, "Numbers of a sheet, from its begin on, become what WALKERS 0, 1, .. CARE for: how many came.");
        Doc.is("the least and the most", told(16, 0, 255).load(0), 2);
        KeepTests.holds("37: all five", told(16, 0, 255, 1, 128, 77), 0, 0, 255, 1, 128, 77);
        KeepTests.holds("37: fewer numbers than WALKERS", told(8, 7, 8), 0, 7, 8);
        CarelessMist x = told(16, 129);
        x.lead(0, 3, 66);
        Doc.is("one", x.load(0), 1);
        Doc.is("what it cared for before is gone", x.ofWalker(0, 3), 129);
        x.write(0, 0, 0);
        Doc.is("to none", 1000 * x.load(0) + x.ofWalker(0, 3), 1000);
        Doc.is("no numbers", told(8).load(0), 0);
        CarelessMist rest = told(8, 7, 8);
        rest.lead(2, 3, 99);
        rest.load(0);
        Doc.is("all others as before", rest.ofWalker(2, 3), 99);

        Doc.about(37, "It ends at the first that isn't 0 to 255, or for which there is no WALKER.");
        for (int[] n : new int[][] {{32, 256}, {32, -1}, {16, 256}, {16, -1}, {8, -1}, {8, -128}, {8, 128}, {32, MAX},
            {32, MIN}}) {
            for (int at = 0; at < 5; at++) {
                CarelessMist y = told(n[0], 5, 6, 7, 8, 9);
                y.write(0, at, n[1]);
                Doc.is(n[1] + " of " + n[0] + " bits in place " + at, y.load(0), at);
                for (int w = 0; w < 5; w++) {
                    Doc.is("WALKER " + w, y.ofWalker(w, 3), w < at ? 5 + w : 0);
                }
            }
        }
        Doc.is("as many as WALKERS", told(8, 1, 2, 3, 4, 5).load(0), 5);
        Doc.is("a number more than WALKERS", told(8, 1, 2, 3, 4, 5, 6).load(0), 5);
        Doc.is("a number more, and none at all", told(16, 1, 2, 3, 4, 5, -1).load(0), 5);
        CarelessMist nobody = new CarelessMist();
        nobody.sheet(0, 8, 40);
        Doc.is("no WALKERS", nobody.load(0), 0);
        CarelessMist all = Scenes.of("walker 0 7; walker 0 7; walker 0 7; walker 0 7; walker 0 7; walker 0 7");
        all.sheet(0, 8, 40);
        Doc.is("six of 40", all.load(0), 6);
        Doc.is("no finding", all.status(-1), 0);

        refusedSheet(37, CarelessMist::load);
    }

    /** A call that is told a sheet. */
    private interface OfSheet {
        int ask(CarelessMist x, int s);
    }

    private static void refusedSheet(int section, OfSheet call) {
        Doc.about(section, "BEYOND: no such sheet.");
        for (int s : NO_SHEETS) {
            Doc.finds("" + s, KeepTests::sheets, Scenes.BEYOND, o -> call.ask(o, s));
        }
        Doc.about(section, "MISSING.");
        Doc.finds("never told", KeepTests::sheets, Scenes.MISSING, o -> call.ask(o, 3));
        Doc.finds("told so", () -> {
            CarelessMist x = KeepTests.sheets();
            x.sheet(0, 0, 5);
            return x;
        }, Scenes.MISSING, o -> call.ask(o, 0));
    }

    private static void judge() {
        Doc.about(38, "THE READER: numbers of a sheet are CELLS of WALKERS 0, 1, ..: 0 if so; else 1 and the place of the "
                + "first that isn't so.");
        String walkers = "walker 0 7; walker 15 7; walker 3 7";
        for (int bits : new int[] {8, 16, 32}) {
            CarelessMist x = Scenes.of(walkers);
            x.sheet(1, bits, 3);
            Doc.is("0 is so, 15 isn't 0", x.judge(1), 2);
            x.write(1, 1, 15);
            Doc.is("the last one isn't", x.judge(1), 3);
            x.write(1, 2, 3);
            Doc.is("all are", x.judge(1), 0);
            x.write(1, 0, 1);
            Doc.is("the first one isn't", x.judge(1), 1);
            x.write(1, 2, 4);
            Doc.is("the first of two", x.judge(1), 1);
            x.write(1, 0, -1);
            Doc.is("-1 is no CELL", x.judge(1), 1);
            x.write(1, 0, 16);
            Doc.is("16 is no CELL", x.judge(1), 1);
            x.sheet(1, bits, 0);
            Doc.is("no numbers", x.judge(1), 0);
            x.sheet(1, bits, 2);
            x.write(1, 1, 15);
            Doc.is("fewer numbers than WALKERS", x.judge(1), 0);
            x.sheet(1, bits, 4);
            x.write(1, 1, 15);
            x.write(1, 2, 3);
            Doc.is("a number of no WALKER", x.judge(1), 4);
        }
        CarelessMist nobody = new CarelessMist();
        nobody.sheet(0, 8, 0);
        Doc.is("nobody and no numbers", nobody.judge(0), 0);
        nobody.sheet(0, 8, 1);
        Doc.is("nobody", nobody.judge(0), 1);
        CarelessMist all = Scenes.of("walker 0 7; walker 0 7; walker 0 7; walker 0 7; walker 0 7; walker 0 7");
        all.sheet(0, 8, 40);
        Doc.is("40 numbers, six WALKERS", all.judge(0), 7);
        CarelessMist gone = Scenes.of("thing 5; walker 5 0; walker 3 0");
        gone.sheet(0, 8, 2);
        gone.write(0, 0, 5);
        gone.write(0, 1, 5);
        Doc.is("as they are now", gone.judge(0), 2);
        gone.go(1);
        Doc.is("as they are tomorrow", gone.judge(0), 0);
        Scenes.onlyAsks("38: judge", TermsEdges::crowded, o -> o.judge(0));

        refusedSheet(38, CarelessMist::judge);
    }

    // ---- images

    private static CarelessMist pictured() {
        CarelessMist x = Scenes.of("cow 1; inn 9; walker 3 1 pace 3 cares 2; turn 2 0 0; turn 5 0 1");
        for (int spot = 0; spot < 10; spot += 2) {
            x.hold(spot, spot % 4 / 2);
        }
        x.hold(9, 1);
        x.seed(77);
        x.change(0, 2, 30);
        x.lead(0, 4, 40);
        x.lead(0, 5, 50);
        x.go(4);
        Doc.is("it is kept", x.image(), 1);
        return x;
    }

    private static void changeAll(CarelessMist x) {
        x.go(7);
        x.thing(3, 3);
        x.walker(4, 4);
        x.change(0, 0, 5);
        x.change(0, 1, 13);
        x.change(1, 2, 500);
        for (int what = 0; what < 6; what++) {
            x.lead(0, what, 5);
        }
        for (int i = 0; i < 6; i++) {
            x.turn(i, 5, 5);
        }
        for (int spot = 0; spot < 10; spot++) {
            x.hold(spot, spot % 3 - 1);
        }
        x.seed(1);
    }

    private static void image() {
        Doc.about(39, "All but THE TAPE and SHEETS is kept: 1.");
        CarelessMist x = pictured();
        Scenes.onlyAsks("39: image changes nothing else", KeepEdges::pictured, CarelessMist::image);
        changeAll(x);
        x.undo();
        CarelessMist y = pictured();
        Doc.is("all is kept", Scenes.stateOf(x).equals(Scenes.stateOf(y)) ? 1 : 0, 1);
        CarelessMist z = pictured();
        z.sheet(0, 16, 1);
        z.write(0, 0, 5);
        Scenes.feed(z, "cow 3");
        z.undo();
        Doc.is("not THE TAPE", z.count(5), 5);
        Doc.is("not SHEETS", 100 * z.load(0) + z.ofWalker(0, 3), 105);
        Doc.is("THE TAPE can be read", z.text(), 1);
        Doc.is("again", z.image(), 1);
        z.sheet(0, 0, 0);
        z.undo();
        Doc.is("a sheet that is MISSING stays so", z.load(0), Scenes.MISSING);
        CarelessMist empty = new CarelessMist();
        Doc.is("of nothing", empty.image(), 1);
        changeAll(empty);
        empty.undo();
        Doc.is("nothing is there again", empty.count(0) + empty.count(1) + empty.count(2) + empty.count(7), 0);
        Doc.is("z is 1 again", empty.count(6), 1);
        Doc.is("THE LIST is as at first again", empty.listed(5), 0);
        CarelessMist full = TermsEdges.crowded();
        full.image();
        for (int t = 0; t < 8; t++) {
            full.change(t, 0, 0);
            full.change(t, 1, t);
        }
        for (int w = 0; w < 6; w++) {
            full.lead(w, 0, w);
            full.lead(w, 4, 9999);
        }
        full.undo();
        CarelessMist same = TermsEdges.crowded();
        same.image();
        Doc.is("of all there can be", Scenes.stateOf(full).equals(Scenes.stateOf(same)) ? 1 : 0, 1);
    }

    private static void undo() {
        Doc.about(40, "It becomes what was kept latest (which stays): DAY.");
        CarelessMist x = pictured();
        Doc.is("at once", x.undo(), 4);
        changeAll(x);
        Doc.is("behind some DAYS", x.undo(), 4);
        Doc.is("it is that DAY", x.count(0), 4);
        changeAll(x);
        Doc.is("it stays", x.undo(), 4);
        Doc.is("all of it", Scenes.stateOf(x).equals(Scenes.stateOf(pictured())) ? 1 : 0, 1);
        CarelessMist y = pictured();
        y.go(2);
        y.image();
        y.go(3);
        Doc.is("the latest", y.undo(), 6);
        Doc.is("the latest again", y.undo(), 6);
        y.tear();
        y.image();
        y.go(1);
        Doc.is("kept behind a tear()", y.undo(), 6);
        CarelessMist first = new CarelessMist();
        first.image();
        first.go(60);
        Doc.is("DAY 0", first.undo(), 0);
        CarelessMist fewer = new CarelessMist();
        fewer.image();
        fewer.thing(5, 5);
        fewer.walker(5, 5);
        fewer.change(0, 2, 70);
        for (int what = 0; what < 6; what++) {
            fewer.lead(0, what, 5);
        }
        fewer.undo();
        Doc.is("no THING any more", fewer.of(0, 0), Scenes.BEYOND);
        Doc.is("no WALKER any more", fewer.ofWalker(0, 0), Scenes.BEYOND);
        fewer.thing(4, 4);
        fewer.walker(4, 4);
        int[] fresh = {4, 4, 2, 0, 0, 0};
        for (int what = 0; what < 6; what++) {
            Doc.is("a new WALKER is as at first, what " + what, fewer.ofWalker(0, what), fresh[what]);
        }
        Doc.is("a new THING has MET 0", fewer.of(0, 2), 0);

        Doc.about(40, "NONE: nothing is kept.");
        Doc.finds("never", () -> Scenes.of("cow 1; walker 2 2"), Scenes.NONE, CarelessMist::undo);
        Doc.finds("not any more", () -> {
            CarelessMist z = pictured();
            changeAll(z);
            z.tear();
            return z;
        }, Scenes.NONE, CarelessMist::undo);
    }

    private static void tear() {
        Doc.about(41, "Nothing is kept: 1 if something was, else 0.");
        CarelessMist x = new CarelessMist();
        Doc.is("nothing was", x.tear(), 0);
        x.image();
        Doc.is("something was", x.tear(), 1);
        Doc.is("nothing is", x.undo(), Scenes.NONE);
        Doc.is("nothing was any more", x.tear(), 0);
        x.image();
        x.image();
        Doc.is("kept twice", x.tear(), 1);
        Doc.is("both are gone", x.tear(), 0);
        x.image();
        x.undo();
        Doc.is("what was undone stays kept", x.tear(), 1);
        CarelessMist y = pictured();
        changeAll(y);
        y.tear();
        CarelessMist z = pictured();
        changeAll(z);
        Doc.is("all else stays", y.count(0) == z.count(0) && y.count(1) == z.count(1) && y.count(7) == z.count(7)
                && y.of(0, 1) == z.of(0, 1) && y.ofWalker(0, 0) == z.ofWalker(0, 0) ? 1 : 0, 1);
    }

    private static void count() {
        Doc.about(42, "0 DAY, 1 THINGS, 2 WALKERS, 3 GOT of all together, 4 STRAYED of all together, 5 bytes of THE TAPE, "
                + "6 z, 7 SPOTS that hold something.");
        CarelessMist x = new CarelessMist();
        for (int what = 0; what < 8; what++) {
            Doc.is("none of all, what " + what, x.count(what), what == 6 ? 1 : 0);
        }
        for (int i = 0; i < 8; i++) {
            x.thing(5, 0);
            Doc.is("THINGS", x.count(1), i + 1);
        }
        for (int i = 0; i < 6; i++) {
            x.walker(8, 7);
            x.lead(i, 4, 9999);
            x.lead(i, 5, 9998);
            Doc.is("WALKERS", x.count(2), i + 1);
            Doc.is("GOT", x.count(3), 9999 * (i + 1));
            Doc.is("STRAYED", x.count(4), 9998 * (i + 1));
        }
        for (int i = 0; i < 10; i++) {
            x.hold(i, 7);
            Doc.is("SPOTS", x.count(7), i + 1);
        }
        for (int i = 0; i < 30; i++) {
            x.feed(0x20202020, 4);
            Doc.is("bytes", x.count(5), 4 * i + 4);
        }
        x.seed(MIN);
        Doc.is("z", x.count(6), MIN);
        x.go(60);
        Doc.is("DAY", x.count(0), 60);
        Doc.is("a 9th is not counted", x.thing(0, 0) + x.walker(0, 0), 2 * Scenes.FULL);
        Doc.is("THINGS still", x.count(1), 8);
        Doc.is("WALKERS still", x.count(2), 6);

        Doc.about(42, "BEYOND: another what.");
        for (int what : new int[] {-1, 8, MIN, MAX}) {
            Doc.finds("" + what, SMALL, Scenes.BEYOND, o -> o.count(what));
        }
        Scenes.onlyAsks("42: count", TermsEdges::crowded, o -> o.count(3));
    }

    private static void status() {
        Doc.about(43, "How many acts answered a finding ever (undo() takes none back): which -1: all, 0 to 6: BEYOND to "
                + "SIZE.");
        CarelessMist x = SMALL.get();
        for (int which = -1; which < 7; which++) {
            Doc.is("none yet, " + which, x.status(which), 0);
        }
        x.image();
        x.sheet(0, 8, 1);
        x.sheet(1, 16, 1);
        int[] due = new int[8];
        for (int round = 0; round < 3; round++) {
            x.listed(6);
            due[1]++;
            x.odds(9, 9, 9, 9);
            due[1]++;
            x.paceFor(0, 0);
            due[4]++;
            x.copy(0, 0, 1, 0, 1);
            due[3]++;
            x.as(0, 0);
            due[6]++;
            x.sheet(0, 8, -1);
            due[7]++;
            while (x.count(5) < 120) {
                x.feed(0, 4);
            }
            x.feed(0, 1);
            due[2]++;
            x.undo();
            due[0] = due[1] + due[2] + due[3] + due[4] + due[6] + due[7];
            for (int which = -1; which < 7; which++) {
                Doc.is("round " + round + ", " + which, x.status(which), due[which + 1]);
            }
        }
        x.tear();
        x.wipe();
        Doc.is("neither tear() nor wipe() takes any back", x.status(-1), due[0]);
        Scenes.text(x, "a FAULT");
        Doc.is("a FAULT is none", x.status(-1), due[0]);
        Doc.is("NONE of undo()", x.undo(), Scenes.NONE);
        Doc.is("is counted", x.status(3), due[4] + 1);
        if (Doc.makeDay(x, 99999)) {
            x.go(1);
            x.morning(1);
            Doc.is("STATE", x.status(4), 2);
            Doc.is("all", x.status(-1), due[0] + 3);
        }

        Doc.about(43, "BEYOND (counted from then on): another one.");
        for (int which : new int[] {-2, 7, MIN, MAX}) {
            Doc.finds("" + which, SMALL, Scenes.BEYOND, o -> o.status(which));
            CarelessMist y = SMALL.get();
            for (int n = 1; n < 4; n++) {
                Doc.is("another one", y.status(which), Scenes.BEYOND);
                Doc.is("counted from then on", y.status(0), n);
                Doc.is("counted with all", y.status(-1), n);
            }
        }
    }
}
