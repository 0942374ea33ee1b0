import java.util.function.Supplier;

/** Promises 28 to 43: z, texts, spots, sheets, images, counts. */
final class KeepTests {
    private static final int MIN = Integer.MIN_VALUE;
    private static final int MAX = Integer.MAX_VALUE;
    private static final String[] KINDS = {"thing", "steeple", "cow", "child", "lover", "bill", "inn"};
    private static final Supplier<CarelessMist> SMALL = () -> Scenes.of("cow 1; cow 5; walker 3 0; walker 4 1");

    private KeepTests() {
    }

    static void run() {
        promise28();
        promise29and30();
        promise31items();
        promise31ends();
        promise31faults();
        promise31numbers();
        promise31changesNothing();
        promise32();
        promise33();
        promise34();
        promise35();
        promise36();
        promise37();
        promise38();
        promise39to41();
        promise42();
        promise43();
    }

    private static void promise28() {
        CarelessMist x = new CarelessMist();
        Due.is("28: seed(7)", x.seed(7), 1);
        Due.is("28: seed(MIN)", x.seed(MIN), 7);
        Due.is("28: seed(BEYOND)", x.seed(-1000001), MIN);
        Due.is("28: z as a finding", x.count(6), -1000001);
        Due.is("28: z as a finding", x.seed(0), -1000001);
        Due.is("28: that is none", x.status(-1), 0);
        x.morning(1);
        // From 0: 12345 and then -740551042, of which >>> 8 are 48 and 13884438.
        Due.is("28: drawn from 0", x.count(6), -740551042);
        Due.is("28: what was drawn from 0", x.listed(0), 6);
    }

    private static void promise29and30() {
        CarelessMist x = new CarelessMist();
        Due.is("29: 3 of 4 bytes", x.feed(0x41636f77, 3), 3);
        Due.is("29: the lowest", x.feed(0x41424331, 1), 4);
        Due.is("29: they are a text", x.text(), 1);
        Due.is("29: a cow AT 1", x.of(0, 1), 1);
        Due.is("29: 4", x.feed(0x636f7720, 4), 4);
        Due.is("29: 2", x.feed(0x3132, 2), 6);
        Due.is("42: bytes", x.count(5), 6);
        Due.is("30: wipe()", x.wipe(), 6);
        Due.is("30: wipe() again", x.wipe(), 0);
        for (int i = 1; i <= 29; i++) {
            Due.is("29: how many", x.feed(-1, 4), 4 * i);
        }
        Due.is("29: 119", x.feed(-1, 3), 119);
        Due.is("29: not all of it", x.feed(-1, 2), Scenes.FULL);
        Due.is("29: 120", x.feed(-1, 1), 120);
        Due.is("29: FULL", x.feed(-1, 1), Scenes.FULL);
        Due.is("29: wrong first", x.feed(-1, 5), Scenes.BEYOND);
        Due.is("30: wipe() of all", x.wipe(), 120);
        Supplier<CarelessMist> full = () -> {
            CarelessMist y = new CarelessMist();
            for (int i = 0; i < 29; i++) {
                y.feed(0x20202020, 4);
            }
            y.feed(0x636f77, 3);
            return y;
        };
        Scenes.finds("29: FULL", full, Scenes.FULL, o -> o.feed(0x31323334, 2));
        CarelessMist z = full.get();
        Due.is("29: FULL leaves all", z.feed(0x2031, 2), Scenes.FULL);
        Due.is("29: but one", z.feed('7', 1), 120);
        Due.is("29: a text of 120", z.text(), 1);
        Due.is("29: read to its end", z.of(0, 1), 7);
        for (int n : new int[] {0, -1, 5, MIN, MAX}) {
            Scenes.finds("29: feed(0, " + n + ")", CarelessMist::new, Scenes.BEYOND, o -> o.feed(0, n));
            Scenes.finds("29: feed(0, " + n + "), full", full, Scenes.BEYOND, o -> o.feed(0, n));
        }
    }

    private static void promise31items() {
        CarelessMist x = new CarelessMist();
        Due.is("31: all things", Scenes.text(x, "thing 1;steeple 2;cow 3;child 4;lover 5;bill 6;inn 7"), 7);
        Due.is("31: the tape is empty", x.count(5), 0);
        for (int t = 0; t < 7; t++) {
            Due.is("31: KIND of " + KINDS[t], x.of(t, 0), t);
            Due.is("31: CELL of " + KINDS[t], x.of(t, 1), t + 1);
            Due.is("31: MET of " + KINDS[t], x.of(t, 2), 0);
        }
        Due.is("31: walkers", Scenes.text(x, "walker 15 7;walker 0 0 pace 5;walker 1 2 cares 255;walker 3 4 pace 1 cares 0"),
                4);
        int[][] due = {{15, 7, 2, 0, 0, 0}, {0, 0, 5, 0, 0, 0}, {1, 2, 2, 255, 0, 0}, {3, 4, 1, 0, 0, 0}};
        for (int w = 0; w < 4; w++) {
            for (int what = 0; what < 6; what++) {
                Due.is("31: ofWalker(" + w + ", " + what + ")", x.ofWalker(w, what), due[w][what]);
            }
        }
        Due.is("31: turns", Scenes.text(x, "turn 0 5 7; turn 5 0 3; turn 0 1 2"), 3);
        Due.is("31: the first place", x.listed(0), 12);
        Due.is("31: the last place", x.listed(5), 3);
        Due.is("31: the 8th", Scenes.text(x, "cow 15"), 1);
        Due.is("42: THINGS", x.count(1), 8);
    }

    private static void reads(String text, int due) {
        Due.is("31: '" + text + "'", Scenes.text(new CarelessMist(), text), due);
    }

    private static void promise31ends() {
        reads("cow1", 1);
        reads("cow 0", 1);
        reads("  cow   1  ", 1);
        reads("cow1;cow2", 2);
        reads(" cow 1 ; cow 2 ", 2);
        reads("walker1 2pace3cares4", 1);
        reads("turn0 0 0", 1);
        reads("cow 007", 1);
        reads("cow 0000000000000000000000000000000015", 1);
        reads("", -1);
        reads("   ", -4);
        reads("cow", -4);
        reads("cow ", -5);
        reads("cow 1;", -7);
        reads("cow 1; ", -8);
        reads("walker", -7);
        reads("walker 1", -9);
        reads("walker 1 2 pace", -16);
        reads("walker 1 2 cares", -17);
        reads("walker 1 2 pace 3 cares ", -25);
        reads("walker 1 2;", -12);
        reads("turn", -5);
        reads("turn 0", -7);
        reads("turn 0 0 ", -10);
    }

    private static void promise31faults() {
        reads(";", -1);
        reads("5", -1);
        reads(" cows 1", -2);
        reads("co 1", -1);
        reads("con 1", -1);
        reads("xow 1", -1);
        reads("ow 1", -1);
        reads("cowz 1", -1);
        reads("acow 1", -1);
        reads("cowcow 1", -1);
        reads("pace 1", -1);
        reads("cares 1", -1);
        reads("Cow 1", -1);
        reads("cowX1", -4);
        reads("cow 1 1", -7);
        reads("cow 1 cow 2", -7);
        reads("cow cow", -5);
        reads("cow ;", -5);
        reads("cow 1;;cow 2", -7);
        reads("cow 1; 2", -8);
        reads("cow 1; cow 16", -12);
        reads("cow 1x", -6);
        reads("cow 1-", -6);
        reads("cow -1", -5);
        reads("cow\t1", -4);
        reads("cow 1\n", -6);
        reads("cow 1\u00ff", -6);
        reads("cow 1\0", -6);
        reads("cow 1/", -6);
        reads("cow 1:", -6);
        reads("cow 1`", -6);
        reads("cow 1{", -6);
        reads("walker 1 ;", -10);
        reads("walker pace 1", -8);
        reads("walker 1 2 3", -12);
        reads("walker 1 2 pace pace", -17);
        reads("walker 1 2 pace 3 pace 3", -19);
        reads("walker 1 2 cares 3 cares 3", -20);
        reads("walker 1 2 cares 3 pace 3", -20);
        reads("walker 1 2 cow 3", -12);
        reads("walker 1 2 paces 3", -12);
        reads("walker 1 2 pac 3", -12);
        reads("turn 0 0 0 0", -12);
        reads("turn 0 0 ;", -10);
        reads("turn 0 0 0 pace 1", -12);
    }

    private static void promise31numbers() {
        reads("cow 15", 1);
        reads("cow 16", -5);
        reads("cow 999", -5);
        reads("cow 1000", -5);
        reads("cow 4294967297", -5);
        reads("cow 18446744073709551617", -5);
        reads("walker 15 7 pace 5 cares 255", 1);
        reads("walker 16 0", -8);
        reads("walker 0 8", -10);
        reads("walker 0 0 pace 0", -17);
        reads("walker 0 0 pace 1", 1);
        reads("walker 0 0 pace 6", -17);
        reads("walker 0 0 cares 256", -18);
        reads("walker 0 0 cares 4294967296", -18);
        reads("turn 5 5 7", 1);
        reads("turn 6 0 0", -6);
        reads("turn 0 6 0", -8);
        reads("turn 0 0 8", -10);
    }

    private static void promise31changesNothing() {
        CarelessMist again = new CarelessMist();
        Due.is("31: a long word", Scenes.text(again, "walkers"), -1);
        Due.is("31: a shorter one then", Scenes.text(again, "walker"), -7);
        Due.is("31: a long number", Scenes.text(again, "cow 156"), -5);
        Due.is("31: a shorter one then", Scenes.text(again, "cow 15"), 1);
        Due.is("31: a word of 120", Scenes.text(again, "w".repeat(120)), -1);
        Due.is("31: a number to byte 120", Scenes.text(again, "cow " + "0".repeat(116)), 1);
        Supplier<CarelessMist> six = () -> Scenes.of("cow 1; cow 1; cow 1; cow 1; cow 1; cow 1;"
                + "walker 2 0; walker 2 0; walker 2 0; walker 2 0; walker 2 0");
        CarelessMist x = six.get();
        Due.is("31: a 9th by the text", Scenes.text(x, "inn 1; inn 2; inn 99"), -15);
        Due.is("31: a 7th by the text", Scenes.text(x, "walker 1 1; walker 99 99"), -13);
        Due.is("31: its NUMBERS before", Scenes.text(x, "inn 1; walker 1 1; inn 16; inn 3"), -24);
        Due.is("31: a word of no thing", Scenes.text(x, "inn 1; inn 1; cows 1"), -15);
        Due.is("31: no finding", x.status(-1), 0);
        Due.is("31: none came", x.count(1) * 10 + x.count(2), 65);
        Scenes.onlyAsks("31: a FAULT at the end", six,
                o -> Scenes.text(o, "turn 0 1 2; inn 7; walker 9 1 pace 5 cares 9; cow 1 1"));
        Scenes.onlyAsks("31: a TEXT that ends too early", six, o -> Scenes.text(o, "turn 0 1 2; inn 7; walker 9"));
        CarelessMist y = six.get();
        Due.is("31: a FAULT", Scenes.text(y, "inn 1; inn"), -11);
        Due.is("31: the tape is empty", y.count(5), 0);
        Due.is("31: the same again in order", Scenes.text(y, "inn 1; inn 2; walker 3 3"), 3);
        Due.is("31: they are as told", 100 * y.of(6, 1) + 10 * y.of(7, 1) + y.ofWalker(5, 0), 123);
        CarelessMist z = six.get();
        z.hold(3, 2);
        z.image();
        z.go(3);
        z.seed(5);
        Due.is("31: a TEXT", Scenes.text(z, "inn 1"), 1);
        Due.is("31: all else stays", z.count(0) * 100 + z.count(6) * 10 + z.count(7), 351);
        Due.is("31: what is kept, too", z.undo(), 0);
        Due.is("31: as it was", z.count(1), 6);
    }

    private static void promise32() {
        CarelessMist x = SMALL.get();
        Due.is("32: hold(0, 1)", x.hold(0, 1), 1);
        Due.is("32: hold(9, 1)", x.hold(9, 1), 1);
        Due.is("42: SPOTS", x.count(7), 2);
        Due.is("33: as(9, 0)", x.as(9, 0), 1);
        Due.is("32: hold(9, 0)", x.hold(9, 0), 1);
        Due.is("33: as(9, 0) then", x.as(9, 0), 0);
        Due.is("32: hold(9, -1)", x.hold(9, -1), 1);
        Due.is("33: it holds nothing", x.as(9, 0), Scenes.MISSING);
        Due.is("42: SPOTS then", x.count(7), 1);
        Due.is("32: nothing again", x.hold(9, -1), 1);
        for (int[] w : new int[][] {{-1, 0}, {10, 0}, {0, -2}, {0, 2}, {MIN, -1}, {MAX, -1}, {0, MIN}, {0, MAX}}) {
            Scenes.finds("32: wrong", SMALL, Scenes.BEYOND, o -> o.hold(w[0], w[1]));
        }
    }

    private static void promise33() {
        // A row a kind of the thing: the kinds that it can be held as.
        int[] can = {1, 1 | 2, 1 | 4, 1 | 4 | 8, 1 | 4 | 8 | 16, 1 | 32, 1 | 2 | 64};
        for (int kind = 0; kind < 7; kind++) {
            for (int as = 0; as < 7; as++) {
                CarelessMist x = Scenes.of("cow 1; " + KINDS[kind] + " 5");
                x.hold(4, 1);
                Due.is("33: a " + KINDS[kind] + " as a " + KINDS[as], x.as(4, as),
                        (can[kind] >> as & 1) == 1 ? 1 : Scenes.KIND);
            }
        }
        Supplier<CarelessMist> held = () -> {
            CarelessMist x = SMALL.get();
            x.hold(4, 1);
            return x;
        };
        CarelessMist x = held.get();
        x.change(1, 0, 4);
        Due.is("33: it has become a lover", x.as(4, 4), 1);
        Scenes.finds("33: another kind", held, Scenes.KIND, o -> o.as(4, 3));
        Scenes.finds("33: nothing", held, Scenes.MISSING, o -> o.as(3, 3));
        for (int[] w : new int[][] {{-1, 0}, {10, 0}, {3, -1}, {4, 7}, {MIN, 0}, {MAX, 0}, {3, MIN}, {4, MAX}}) {
            Scenes.finds("33: wrong", held, Scenes.BEYOND, o -> o.as(w[0], w[1]));
        }
    }

    private static void promise34() {
        for (int bits : new int[] {8, 16, 32}) {
            CarelessMist x = Scenes.of("walker 0 0; walker 0 0");
            Due.is("34: 40", x.sheet(3, bits, 40), 40);
            Due.is("34: the last number", x.write(3, 39, 1), 1);
            Due.is("34: none behind it", x.write(3, 40, 1), Scenes.BEYOND);
            Due.is("34: no numbers", x.sheet(3, bits, 0), 0);
            Due.is("34: none at all", x.write(3, 0, 1), Scenes.BEYOND);
            Due.is("34: it isn't missing", x.judge(3), 0);
            Due.is("34: 2", x.sheet(3, bits, 2), 2);
            Due.is("34: all 0", x.judge(3), 0);
            x.write(3, 1, 5);
            Due.is("34: not all 0", x.judge(3), 2);
            Due.is("34: 2 again", x.sheet(3, bits, 2), 2);
            Due.is("34: all 0 again", x.judge(3), 0);
            Due.is("34: 3", x.sheet(3, bits, 3), 3);
            Due.is("34: a third", x.judge(3), 3);
            Due.is("34: MISSING", x.sheet(3, 0, 40), 0);
            Due.is("34: it is", x.judge(3), Scenes.MISSING);
            Due.is("34: MISSING again", x.sheet(3, 0, 0), 0);
        }
        for (int bits : new int[] {0, 8, 16, 32}) {
            for (int n : new int[] {-1, MIN}) {
                Scenes.finds("34: SIZE", KeepTests::sheets, Scenes.SIZE, o -> o.sheet(0, bits, n));
            }
            for (int n : new int[] {41, MAX}) {
                Scenes.finds("34: above 40", KeepTests::sheets, Scenes.BEYOND, o -> o.sheet(0, bits, n));
            }
        }
        int[][] wrong = {{-1, 8, 1}, {4, 8, 1}, {0, 7, 1}, {0, 64, 1}, {0, -8, 1}, {0, 24, 1}, {0, 1, 1}, {0, 9, -1},
            {4, 8, -1}, {MIN, 0, 1}, {MAX, 0, -1}, {0, MIN, 1}, {0, MAX, -1}};
        for (int[] w : wrong) {
            Scenes.finds("34: wrong", KeepTests::sheets, Scenes.BEYOND, o -> o.sheet(w[0], w[1], w[2]));
        }
    }

    /** Sheet 0 is 1, 2, 3, 4, 5 of 8 bits, 1 three numbers of 8 bits, 2 one of 16 bits; 3 is missing. */
    static CarelessMist sheets() {
        CarelessMist x = Scenes.of("walker 1 0; walker 2 0; walker 3 0; walker 4 0; walker 5 0");
        x.sheet(0, 8, 5);
        x.sheet(1, 8, 3);
        x.sheet(2, 16, 1);
        for (int i = 0; i < 5; i++) {
            x.write(0, i, i + 1);
        }
        return x;
    }

    private static void promise35() {
        int[][] due = {{8, 255, -1}, {8, 254, -1000}, {8, 256 + 7, 7}, {8, -256, 0}, {8, 127, 127}, {8, MAX, -1},
            {16, 65535, -1}, {16, 65536 + 9, 9}, {16, MIN, 0}, {16, 255, 255}, {32, -1, -1}, {32, 65536 + 9, -1000},
            {32, 128, 128}, {16, 128, 128}};
        for (int[] d : due) {
            CarelessMist x = Scenes.of("thing 7; walker 7 7");
            x.sheet(1, d[0], 2);
            Due.is("35: write", x.write(1, 1, d[1]), 1);
            x.copy(1, 1, 1, 0, 1);
            int kinds = d[2] == -1 ? 127 : d[2] == 7 ? 1 | 2 | 32 | 64 : 0;
            Due.is("35: " + d[1] + " of " + d[0] + " bits, as a cell", x.kinds(1, 0), kinds);
            x.lead(0, 3, 77);
            boolean set = d[2] >= 0 && d[2] <= 255;
            Due.is("35: " + d[1] + " of " + d[0] + " bits, as a set", x.load(1), set ? 1 : 0);
            Due.is("35: that set", x.ofWalker(0, 3), set ? d[2] : 77);
        }
        for (int i : new int[] {-1, 5, MIN, MAX}) {
            Scenes.finds("35: no such number", KeepTests::sheets, Scenes.BEYOND, o -> o.write(0, i, 9));
        }
        for (int s : new int[] {-1, 4, MIN, MAX}) {
            Scenes.finds("35: no such sheet", KeepTests::sheets, Scenes.BEYOND, o -> o.write(s, 0, 9));
        }
        Scenes.finds("35: missing", KeepTests::sheets, Scenes.MISSING, o -> o.write(3, 99, 9));
    }

    /** What walkers 0 to 4 care for when a sheet is loaded. */
    static void holds(String what, CarelessMist x, int s, int... due) {
        for (int w = 0; w < 5; w++) {
            x.lead(w, 3, 99);
        }
        Due.is(what + ", load", x.load(s), due.length);
        for (int i = 0; i < due.length; i++) {
            Due.is(what + ", number " + i, x.ofWalker(i, 3), due[i]);
        }
    }

    private static void promise36() {
        CarelessMist x = sheets();
        Due.is("36: to another", x.copy(0, 1, 1, 0, 3), 3);
        holds("36: to another", x, 1, 2, 3, 4);
        Due.is("36: one", x.copy(0, 4, 1, 2, 1), 1);
        holds("36: one", x, 1, 2, 3, 5);
        Due.is("36: upwards", x.copy(0, 0, 0, 1, 4), 4);
        holds("36: upwards", x, 0, 1, 1, 2, 3, 4);
        Due.is("36: downwards", x.copy(0, 2, 0, 0, 3), 3);
        holds("36: downwards", x, 0, 2, 3, 4, 3, 4);
        Due.is("36: all onto itself", x.copy(0, 0, 0, 0, 5), 5);
        Due.is("36: none", x.copy(0, 0, 1, 0, 0), 0);
        Due.is("36: none from the end to the end", x.copy(0, 5, 1, 3, 0), 0);
        holds("36: as before", x, 0, 2, 3, 4, 3, 4);
        int[][] beyond = {{-1, 0, 1, 0, 0}, {4, 0, 1, 0, 0}, {0, 0, -1, 0, 0}, {0, 0, 4, 0, 0}, {3, 0, 4, 0, 0},
            {4, 0, 3, 0, 0}, {0, 0, 1, 0, 4}, {0, 3, 1, 0, 3}, {1, 0, 0, 0, 4}, {1, 0, 0, 3, 3}, {0, -1, 1, 0, 1},
            {0, 0, 1, -1, 1}, {0, 0, 1, 0, -1}, {0, 6, 1, 0, 0}, {0, 0, 1, 4, 0}, {0, MAX, 1, 0, 1}, {0, 0, 1, MAX, 1},
            {0, 1, 1, 1, MAX}, {0, MIN, 1, 0, 1}, {0, 0, 1, MIN, 1}, {0, 0, 1, 0, MIN}, {0, MAX, 1, MAX, MAX}};
        for (int[] w : beyond) {
            Scenes.finds("36: BEYOND", KeepTests::sheets, Scenes.BEYOND, o -> o.copy(w[0], w[1], w[2], w[3], w[4]));
        }
        for (int[] w : new int[][] {{3, 0, 0, 0, 1}, {0, 0, 3, 0, 1}, {3, -1, 2, -1, 99}, {3, 0, 3, 0, 0}}) {
            Scenes.finds("36: MISSING", KeepTests::sheets, Scenes.MISSING, o -> o.copy(w[0], w[1], w[2], w[3], w[4]));
        }
        for (int[] w : new int[][] {{0, 0, 2, 0, 1}, {2, 0, 0, 0, 1}, {0, 0, 2, 0, 0}, {0, -1, 2, 99, MIN}}) {
            Scenes.finds("36: KIND", KeepTests::sheets, Scenes.KIND, o -> o.copy(w[0], w[1], w[2], w[3], w[4]));
        }
    }

    private static void promise37() {
        holds("37: 8 bits", sheets(), 0, 1, 2, 3, 4, 5);
        CarelessMist x = sheets();
        x.write(0, 2, 128);
        holds("37: it ends at -128", x, 0, 1, 2);
        Due.is("37: those behind it stay", 1000 * x.ofWalker(2, 3) + x.ofWalker(4, 3), 99099);
        x.sheet(3, 32, 8);
        x.write(3, 0, 255);
        x.write(3, 4, 256);
        holds("37: it ends at 256", x, 3, 255, 0, 0, 0);
        x.write(3, 4, 255);
        holds("37: it ends with the walkers", x, 3, 255, 0, 0, 0, 255);
        x.write(3, 0, -1);
        holds("37: none", x, 3);
        x.sheet(3, 32, 0);
        holds("37: no numbers", x, 3);
        for (int s : new int[] {-1, 4, MIN, MAX}) {
            Scenes.finds("37: no such sheet", KeepTests::sheets, Scenes.BEYOND, o -> o.load(s));
        }
        Scenes.finds("37: missing", KeepTests::sheets, Scenes.MISSING, o -> o.load(3));
    }

    private static void promise38() {
        CarelessMist x = sheets();
        Due.is("38: so", x.judge(0), 0);
        Due.is("38: not the first", x.judge(1), 1);
        x.lead(4, 0, 6);
        Due.is("38: not the last", x.judge(0), 5);
        x.lead(1, 0, 6);
        Due.is("38: not the second", x.judge(0), 2);
        CarelessMist y = Scenes.of("walker 0 0; walker 0 0");
        y.sheet(2, 32, 3);
        Due.is("38: no such walker", y.judge(2), 3);
        y.sheet(2, 32, 1);
        Due.is("38: fewer numbers", y.judge(2), 0);
        y.write(2, 0, 16);
        Due.is("38: no cell", y.judge(2), 1);
        y.sheet(2, 32, 0);
        Due.is("38: no numbers", y.judge(2), 0);
        Scenes.onlyAsks("38: judge", KeepTests::sheets, o -> o.judge(0));
        for (int s : new int[] {-1, 4, MIN, MAX}) {
            Scenes.finds("38: no such sheet", KeepTests::sheets, Scenes.BEYOND, o -> o.judge(s));
        }
        Scenes.finds("38: missing", KeepTests::sheets, Scenes.MISSING, o -> o.judge(3));
    }

    private static CarelessMist pictured() {
        CarelessMist x = Scenes.of("cow 1; inn 9; walker 3 1 cares 2; turn 2 0 0");
        x.hold(5, 1);
        x.seed(77);
        x.go(4);
        x.sheet(0, 8, 3);
        Scenes.feed(x, "cow");
        Due.is("39: image()", x.image(), 1);
        return x;
    }

    private static void promise39to41() {
        CarelessMist x = pictured();
        x.go(7);
        x.thing(3, 3);
        x.walker(4, 4);
        x.change(0, 0, 5);
        x.change(1, 2, 500);
        x.lead(0, 2, 5);
        x.turn(5, 5, 5);
        x.hold(5, -1);
        x.hold(6, 2);
        x.seed(1);
        Due.is("40: undo()", x.undo(), 4);
        Due.is("40: all is as it was", Scenes.stateOf(x).equals(Scenes.stateOf(pictured())) ? 1 : 0, 1);
        CarelessMist y = pictured();
        y.wipe();
        y.sheet(0, 16, 2);
        y.of(9, 9);
        y.undo();
        Due.is("39: not THE TAPE", y.count(5), 0);
        Due.is("39: not SHEETS", y.write(0, 2, 0), Scenes.BEYOND);
        Due.is("43: undo() takes no finding back", y.status(-1), 2);
        y.go(1);
        Due.is("40: it stays", y.undo(), 4);
        y.go(2);
        y.image();
        y.go(3);
        Due.is("40: the latest", y.undo(), 6);
        Due.is("41: tear()", y.tear(), 1);
        Due.is("41: tear() again", y.tear(), 0);
        Scenes.finds("40: nothing is kept", () -> Scenes.of("cow 1; walker 2 2"), Scenes.NONE, o -> o.undo());
        Scenes.finds("40: nothing is kept any more", () -> {
            CarelessMist z = pictured();
            z.go(1);
            z.tear();
            return z;
        }, Scenes.NONE, o -> o.undo());
        CarelessMist z = pictured();
        z.tear();
        z.go(1);
        z.image();
        Due.is("39: again", z.undo(), 5);
        CarelessMist w = Scenes.of("");
        w.image();
        w.thing(5, 5);
        w.walker(5, 5);
        w.change(0, 2, 70);
        for (int what = 0; what < 6; what++) {
            w.lead(0, what, 5);
        }
        w.undo();
        w.thing(4, 4);
        w.walker(4, 4);
        int[] fresh = {4, 4, 2, 0, 0, 0};
        for (int what = 0; what < 6; what++) {
            Due.is("40: a new walker is new, " + what, w.ofWalker(0, what), fresh[what]);
        }
        Due.is("40: a new thing is new", 100 * w.of(0, 0) + 10 * w.of(0, 1) + w.of(0, 2), 440);
        CarelessMist empty = new CarelessMist();
        empty.image();
        empty.thing(1, 1);
        empty.walker(1, 1);
        Due.is("40: nobody", empty.undo(), 0);
        Due.is("40: nobody there", empty.count(1) + empty.count(2), 0);
    }

    private static void promise42() {
        CarelessMist x = Scenes.of("cow 1; inn 9; bill 4; walker 3 7; walker 9 7");
        x.lead(0, 4, 700);
        x.lead(1, 4, 7);
        x.lead(0, 5, 40);
        x.lead(1, 5, 5);
        x.seed(-5);
        x.hold(0, 0);
        x.hold(9, 0);
        x.feed(1, 3);
        x.go(9);
        int[] due = {9, 3, 2, 707, 45, 3, -5, 2};
        for (int what = 0; what < 8; what++) {
            Due.is("42: count(" + what + ")", x.count(what), due[what]);
        }
        for (int what : new int[] {-1, 8, MIN, MAX}) {
            Scenes.finds("42: count(" + what + ")", SMALL, Scenes.BEYOND, o -> o.count(what));
        }
    }

    private static void promise43() {
        CarelessMist x = SMALL.get();
        x.go(0);
        x.sheet(0, 8, -1);
        x.sheet(0, 8, 41);
        x.judge(0);
        x.undo();
        x.undo();
        x.hold(0, 0);
        x.as(0, 6);
        x.as(0, 6);
        x.as(0, 6);
        for (int i = 0; i < 10; i++) {
            x.thing(1, 1);
        }
        Scenes.text(x, "cows");
        int[] due = {13, 2, 4, 3, 2, 0, 1, 1};
        for (int which = -1; which < 7; which++) {
            Due.is("43: status(" + which + ")", x.status(which), due[which + 1]);
        }
        Due.is("43: status(7)", x.status(7), Scenes.BEYOND);
        Due.is("43: it counts", x.status(0), 3);
        Due.is("43: status(-2)", x.status(-2), Scenes.BEYOND);
        Due.is("43: it counts, too", x.status(-1), 15);
        for (int which : new int[] {-2, 7, MIN, MAX}) {
            Scenes.finds("43: status(" + which + ")", SMALL, Scenes.BEYOND, o -> o.status(which));
        }
        Due.is("43: findings in longs", x.odds(9, 9, 9, 9), Scenes.BEYOND);
        Due.is("43: they count", x.status(0), 5);
    }
}
