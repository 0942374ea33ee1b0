/** Promises 1 to 13: the common and its days. */
final class CommonTests {
    private static final int MIN = Integer.MIN_VALUE;
    private static final int MAX = Integer.MAX_VALUE;
    private static final String[] KINDS = {"thing", "steeple", "cow", "child", "lover", "bill", "inn"};

    private CommonTests() {
    }

    static void run() {
        promise1();
        promise2and3();
        promise4and5();
        promise6();
        promise7();
        promise8and9();
        promise10();
        promise11();
        promise12ways();
        promise12others();
        promise12touches();
        promise12things();
        promise12ends();
        promise13();
    }

    private static void promise1() {
        CarelessMist x = new CarelessMist();
        for (int which = -1; which < 7; which++) {
            Due.is("1: status(" + which + ")", x.status(which), 0);
        }
        for (int what = 0; what < 8; what++) {
            Due.is("1: count(" + what + ")", x.count(what), what == 6 ? 1 : 0);
            Due.is("1: now(" + what + ")", x.now(what), 0);
        }
        for (int i = 0; i < 6; i++) {
            Due.is("1: listed(" + i + ")", x.listed(i), 0);
        }
        for (int spot = 0; spot < 10; spot++) {
            Due.is("1: as(" + spot + ", 0)", x.as(spot, 0), Scenes.MISSING);
        }
        for (int s = 0; s < 4; s++) {
            Due.is("1: judge(" + s + ")", x.judge(s), Scenes.MISSING);
        }
        Due.is("1: of(0, 0)", x.of(0, 0), Scenes.BEYOND);
        Due.is("1: ofWalker(0, 0)", x.ofWalker(0, 0), Scenes.BEYOND);
        Due.is("1: undo()", x.undo(), Scenes.NONE);
        Due.is("1: tear()", x.tear(), 0);
        Due.is("1: wipe()", x.wipe(), 0);
    }

    private static void promise2and3() {
        CarelessMist x = new CarelessMist();
        Due.is("2: turn(0, 5, 7)", x.turn(0, 5, 7), 0);
        Due.is("2: turn(0, 1, 2)", x.turn(0, 1, 2), 57);
        Due.is("3: listed(0)", x.listed(0), 12);
        Due.is("2: turn(5, 0, 3)", x.turn(5, 0, 3), 0);
        Due.is("3: listed(5)", x.listed(5), 3);
        Due.is("3: listed(1)", x.listed(1), 0);
        int[][] wrong = {{-1, 0, 0}, {6, 0, 0}, {0, -1, 0}, {0, 6, 0}, {0, 0, -1}, {0, 0, 8}, {MIN, 0, 0}, {MAX, 0, 0},
            {0, MAX, 0}, {0, MIN, 0}, {0, 0, MAX}, {0, 0, MIN}};
        for (int[] w : wrong) {
            Scenes.finds("2: wrong turn", () -> Scenes.of("cow 1; walker 2 0"), Scenes.BEYOND,
                    o -> o.turn(w[0], w[1], w[2]));
        }
        for (int i : new int[] {-1, 6, MIN, MAX}) {
            Scenes.finds("3: listed(" + i + ")", () -> Scenes.of("cow 1"), Scenes.BEYOND, o -> o.listed(i));
        }
    }

    private static void promise4and5() {
        CarelessMist x = new CarelessMist();
        for (int t = 0; t < 8; t++) {
            Due.is("4: thing", x.thing(t % 7, 15 - t), t);
            Due.is("4: its KIND", x.of(t, 0), t % 7);
            Due.is("4: its CELL", x.of(t, 1), 15 - t);
            Due.is("4: its MET", x.of(t, 2), 0);
        }
        int[] firsts = {9, 0, 2, 0, 0, 0};
        for (int w = 0; w < 6; w++) {
            Due.is("5: walker", x.walker(9 + w, 7 - w), w);
            for (int what = 0; what < 6; what++) {
                Due.is("5: ofWalker", x.ofWalker(w, what), what == 0 ? 9 + w : what == 1 ? 7 - w : firsts[what]);
            }
        }
        String full = "cow 1; cow 2; cow 3; cow 4; cow 5; cow 6; cow 7; cow 8; walker 0 0; walker 1 0; walker 2 0;"
                + "walker 3 0; walker 4 0; walker 5 0";
        Scenes.finds("4: a 9th", () -> Scenes.of(full), Scenes.FULL, o -> o.thing(0, 0));
        Scenes.finds("5: a 7th", () -> Scenes.of(full), Scenes.FULL, o -> o.walker(0, 0));
        for (int[] w : new int[][] {{-1, 0}, {7, 0}, {0, -1}, {0, 16}, {MAX, 0}, {MIN, 0}, {0, MAX}, {0, MIN}}) {
            Scenes.finds("4: wrong thing", CarelessMist::new, Scenes.BEYOND, o -> o.thing(w[0], w[1]));
            Scenes.finds("4: wrong 9th", () -> Scenes.of(full), Scenes.BEYOND, o -> o.thing(w[0], w[1]));
        }
        for (int[] w : new int[][] {{-1, 0}, {16, 0}, {0, -1}, {0, 8}, {MAX, 0}, {MIN, 0}, {0, MAX}, {0, MIN}}) {
            Scenes.finds("5: wrong walker", CarelessMist::new, Scenes.BEYOND, o -> o.walker(w[0], w[1]));
            Scenes.finds("5: wrong 7th", () -> Scenes.of(full), Scenes.BEYOND, o -> o.walker(w[0], w[1]));
        }
        Due.is("4: the last cell", Scenes.of("cow 15").of(0, 1), 15);
        Due.is("5: the last cell and aim", Scenes.of("walker 15 7").ofWalker(0, 1), 7);
    }

    private static void promise6() {
        int[] clear = {4, 15, 6, 3, 2, 0, 7};
        int[][] dim = {{0, 1, 1, 0, 0, 5, 1}, {0, 1, 1, 0, 0, 5, 2}, {0, 1, 1, 0, 0, 5, 1}, {0, 1, 1, 0, 0, 5, 2}};
        int[][] moves = {{0, 0, 1, 2, 4, 0, 0}, {0, 0, 0, 1, 2, 0, 0}, {0, 0, 0, 1, 2, 0, 0}, {0, 0, 1, 2, 4, 0, 0}};
        CarelessMist x = Scenes.of("thing 3; steeple 3; cow 3; child 3; lover 3; bill 3; inn 3");
        for (int day = 0; day < 4; day++) {
            for (int t = 0; t < 7; t++) {
                Due.is("6: CLEAR of " + KINDS[t], x.of(t, 3), clear[t]);
                Due.is("6: DIM of " + KINDS[t] + ", day " + day, x.of(t, 4), dim[day][t]);
                Due.is("6: MOVES of " + KINDS[t] + ", day " + day, x.of(t, 5), moves[day][t]);
                Due.is("6: KIND", x.of(t, 0), t);
            }
            x.go(1);
        }
        for (int t = 0; t < 7; t++) {
            x.change(t, 2, 2);
            Due.is("6: DIM, MET 2", x.of(t, 4), dim[0][t]);
            x.change(t, 2, 3);
            Due.is("6: DIM, MET 3", x.of(t, 4), t == 4 ? 2 : dim[0][t]);
            Due.is("6: MET", x.of(t, 2), 3);
            x.change(t, 2, 9999);
            Due.is("6: DIM, MET 9999", x.of(t, 4), t == 4 ? 2 : dim[0][t]);
        }
        for (int[] w : new int[][] {{-1, 0}, {1, 0}, {0, -1}, {0, 6}, {MIN, 0}, {MAX, 0}, {0, MIN}, {0, MAX}}) {
            Scenes.finds("6: wrong of", () -> Scenes.of("cow 1"), Scenes.BEYOND, o -> o.of(w[0], w[1]));
        }
    }

    private static void promise7() {
        CarelessMist x = Scenes.of("cow 4; inn 5");
        Due.is("7: change(0, 0, 6)", x.change(0, 0, 6), 2);
        Due.is("7: change(0, 1, 15)", x.change(0, 1, 15), 4);
        Due.is("7: change(0, 2, 9999)", x.change(0, 2, 9999), 0);
        Due.is("7: change(0, 2, 0)", x.change(0, 2, 0), 9999);
        Due.is("7: change(0, 0, 0)", x.change(0, 0, 0), 6);
        Due.is("7: change(0, 1, 0)", x.change(0, 1, 0), 15);
        Due.is("7: the other one", 100 * x.of(1, 0) + x.of(1, 1), 605);
        int[][] wrong = {{-1, 0, 0}, {1, 0, 0}, {0, -1, 0}, {0, 3, 0}, {0, 0, -1}, {0, 0, 7}, {0, 1, -1}, {0, 1, 16},
            {0, 2, -1}, {0, 2, 10000}, {MAX, 0, 0}, {0, MIN, 0}, {0, MAX, 0}, {0, 2, MAX}, {0, 2, MIN}};
        for (int[] w : wrong) {
            Scenes.finds("7: wrong change", () -> Scenes.of("cow 1"), Scenes.BEYOND, o -> o.change(w[0], w[1], w[2]));
        }
    }

    private static void promise8and9() {
        int[] first = {3, 4, 2, 0, 0, 0};
        int[] least = {0, 0, 1, 0, 0, 0};
        int[] most = {15, 7, 5, 255, 9999, 9999};
        CarelessMist x = Scenes.of("walker 3 4; walker 5 6");
        for (int what = 0; what < 6; what++) {
            int w = what;
            Due.is("8: ofWalker at first", x.ofWalker(0, what), first[what]);
            Due.is("9: lead to the most", x.lead(0, what, most[what]), first[what]);
            Due.is("8: ofWalker, the most", x.ofWalker(0, what), most[what]);
            Due.is("9: lead to the least", x.lead(0, what, least[what]), most[what]);
            Due.is("8: ofWalker, the least", x.ofWalker(0, what), least[what]);
            for (int v : new int[] {least[what] - 1, most[what] + 1, MIN, MAX}) {
                Scenes.finds("9: lead(0, " + what + ", " + v + ")", () -> Scenes.of("walker 3 4"), Scenes.BEYOND,
                        o -> o.lead(0, w, v));
            }
        }
        Due.is("9: the other one", 100 * x.ofWalker(1, 0) + x.ofWalker(1, 1), 506);
        for (int[] w : new int[][] {{-1, 0}, {1, 0}, {0, -1}, {0, 6}, {MIN, 0}, {MAX, 0}, {0, MIN}, {0, MAX}}) {
            Scenes.finds("8: wrong", () -> Scenes.of("walker 3 4"), Scenes.BEYOND, o -> o.ofWalker(w[0], w[1]));
            Scenes.finds("9: wrong", () -> Scenes.of("walker 3 4"), Scenes.BEYOND, o -> o.lead(w[0], w[1], 1));
        }
    }

    private static void promise10() {
        String things = "thing 4; thing 3; steeple 0; cow 14; cow 15; bill 8; bill 9; inn 1;";
        Due.is("10: caring for nothing", Scenes.of(things + "walker 8 0").sees(0), 1 + 4 + 8 + 32 + 128);
        Due.is("10: caring for all", Scenes.of(things + "walker 8 0 cares 255").sees(0), 32 + 64);
        Due.is("10: caring for some", Scenes.of(things + "walker 8 0 cares 65").sees(0), 4 + 8 + 32 + 64 + 128);
        Due.is("10: a row, not a ring", Scenes.of("thing 15; steeple 15; walker 0 0").sees(0), 2);
        Due.is("10: child and lover, in", Scenes.of("child 5; lover 6; walker 8 0").sees(0), 3);
        Due.is("10: child and lover, out", Scenes.of("child 4; lover 5; walker 8 0").sees(0), 0);
        Due.is("10: things there aren't", Scenes.of("thing 1; walker 0 0 cares 254").sees(0), 1);
        CarelessMist x = Scenes.of("inn 2; walker 0 3 cares 1");
        Due.is("10: an inn on an even day", x.sees(0), 0);
        x.go(1);
        Due.is("10: an inn on an odd day", x.sees(0), 1);
        for (int w : new int[] {-1, 1, MIN, MAX}) {
            Scenes.finds("10: sees(" + w + ")", () -> Scenes.of("cow 1; walker 3 4"), Scenes.BEYOND, o -> o.sees(w));
        }
        Scenes.onlyAsks("10: sees", () -> Scenes.of("cow 1; walker 3 0"), o -> o.sees(0));
    }

    private static void promise11() {
        CarelessMist x = Scenes.of("lover 8; walker 6 0; walker 5 0; walker 10 0; walker 8 0 cares 1;"
                + "walker 9 0 cares 1; walker 11 0");
        Due.is("11: a lover", x.seenBy(0), 1 + 4 + 8);
        x.change(0, 2, 3);
        Due.is("11: a lover met thrice", x.seenBy(0), 1 + 4 + 8 + 16);
        Due.is("11: nobody", Scenes.of("cow 0; walker 7 0").seenBy(0), 0);
        for (int t : new int[] {-1, 1, MIN, MAX}) {
            Scenes.finds("11: seenBy(" + t + ")", () -> Scenes.of("cow 1; walker 3 4"), Scenes.BEYOND,
                    o -> o.seenBy(t));
        }
    }

    /** Behind some days: CELL, GOT, STRAYED and CARES of a walker. */
    private static void behind(String items, int days, int walker, int cell, int got, int strayed, int cares) {
        CarelessMist x = Scenes.of(items);
        x.go(days);
        String what = "12: " + items + ", " + days + " days: ";
        Due.is(what + "CELL", x.ofWalker(walker, 0), cell);
        Due.is(what + "GOT", x.ofWalker(walker, 4), got);
        Due.is(what + "STRAYED", x.ofWalker(walker, 5), strayed);
        Due.is(what + "CARES", x.ofWalker(walker, 3), cares);
    }

    private static void promise12ways() {
        behind("thing 5; walker 1 0", 1, 0, 3, 0, 0, 0);
        behind("thing 5; walker 1 0", 2, 0, 5, 1, 0, 0);
        behind("thing 5; walker 1 0", 3, 0, 5, 2, 0, 0);
        behind("thing 5; walker 4 0 pace 5", 1, 0, 5, 1, 0, 0);
        behind("thing 5; walker 6 0 pace 5", 1, 0, 5, 1, 0, 0);
        behind("steeple 1; walker 15 0 pace 5", 2, 0, 5, 0, 0, 0);
        behind("steeple 1; walker 15 0 pace 5", 3, 0, 1, 1, 0, 0);
        behind("steeple 15; walker 0 0 pace 1", 14, 0, 14, 0, 0, 0);
        behind("thing 5; walker 10 0", 1, 0, 11, 0, 1, 0);
        behind("thing 5; walker 15 0", 1, 0, 0, 0, 1, 0);
        behind("thing 3; walker 2 0 cares 1", 1, 0, 3, 1, 1, 1);
        behind("thing 5; walker 9 5", 4, 0, 9, 0, 0, 0);
        behind("thing 5; walker 4 0; turn 0 0 0", 1, 0, 5, 1, 1, 1);
        behind("thing 5; walker 3 0; turn 0 0 0", 1, 0, 4, 0, 1, 1);
        behind("thing 5; walker 3 0 cares 1; turn 0 0 0", 1, 0, 5, 1, 0, 0);
        behind("thing 5; walker 9 5 cares 2; turn 0 0 0; turn 1 0 1; turn 3 0 0", 4, 0, 9, 0, 0, 2);
        behind("thing 5; walker 9 5; turn 0 1 0; turn 1 0 7", 2, 0, 9, 0, 0, 0);
        behind("thing 5; walker 9 5; turn 5 0 0", 5, 0, 9, 0, 0, 0);
        behind("thing 5; walker 9 5; turn 5 0 0", 6, 0, 9, 0, 0, 1);
        behind("thing 5; walker 9 5; turn 5 0 0", 12, 0, 9, 0, 0, 0);
        behind("cow 1; cow 1; cow 1; cow 1; cow 1; cow 1; cow 1; cow 1; walker 0 7; walker 0 7; walker 12 7;"
                + "turn 0 2 7", 1, 2, 13, 0, 1, 128);
        behind("inn 5; walker 3 0 cares 1", 1, 0, 4, 0, 1, 1);
        behind("inn 5; walker 3 0 cares 1; turn 0 0 0; turn 1 0 0", 1, 0, 5, 1, 0, 0);
        CarelessMist x = Scenes.of("inn 5; walker 3 5 cares 1");
        x.go(1);
        x.lead(0, 1, 0);
        Due.is("12: an inn on an odd day", x.go(1), 1);
    }

    private static void promise12others() {
        behind("thing 10; walker 7 0 cares 1; walker 7 7", 1, 0, 9, 0, 0, 1);
        behind("thing 10; walker 7 0 cares 1; walker 8 7", 1, 0, 8, 0, 1, 1);
        behind("thing 10; walker 7 0 cares 1; walker 7 7 cares 1", 1, 0, 8, 0, 1, 1);
        behind("thing 10; steeple 10; walker 7 0 cares 1; walker 7 1 cares 1", 1, 0, 8, 0, 1, 1);
        // By numbers, and as all are then: the guide has gone on before 1, but not before 0.
        behind("thing 10; walker 7 0; walker 7 0 cares 1", 1, 1, 8, 0, 1, 1);
        behind("thing 10; walker 7 0 cares 1; walker 7 0", 1, 0, 9, 0, 0, 1);
        behind("thing 10; walker 7 0 cares 1; walker 7 0", 1, 1, 9, 0, 0, 0);
        behind("thing 10; walker 7 0; walker 9 0 cares 1", 1, 1, 10, 1, 0, 1);
        // MET and CARES of earlier ones tell on the same day.
        behind("lover 5; walker 5 0; walker 5 0; walker 5 0; walker 3 0 cares 1", 1, 3, 5, 1, 0, 0);
        behind("lover 5; walker 5 0; walker 5 0; walker 4 7; walker 3 0 cares 1", 1, 3, 4, 0, 1, 1);
        Due.is("12: GOT of all", Scenes.of("thing 5; walker 5 0; walker 5 0; walker 1 0; walker 9 7").go(3), 8);
    }

    private static void promise12touches() {
        int[] without = {0, 0, 0, 1, 1, 0, 0};
        int[] with = {1, 0, 1, 1, 0, 0, 0};
        for (int kind = 0; kind < 7; kind++) {
            behind(KINDS[kind] + " 5; walker 5 0", 1, 0, 5, 1, 0, without[kind]);
            behind(KINDS[kind] + " 5; walker 5 0 cares 1", 1, 0, 5, 1, 0, with[kind]);
            behind("cow 9;" + KINDS[kind] + " 5; walker 5 1 cares 253", 1, 0, 5, 1, 0, 253 + 2 * without[kind]);
            behind("cow 9;" + KINDS[kind] + " 5; walker 5 1 cares 255", 1, 0, 5, 1, 0, 253 + 2 * with[kind]);
        }
    }

    private static void promise12things() {
        int[][] due = {{15, 15, 0, 1, 3, 15, 15}, {15, 15, 0, 2, 5, 15, 15}, {15, 15, 0, 3, 7, 15, 15},
            {15, 15, 1, 5, 11, 15, 15}};
        CarelessMist x = Scenes.of("thing 15; steeple 15; cow 15; child 15; lover 15; bill 15; inn 15");
        for (int day = 0; day < 4; day++) {
            x.go(1);
            for (int t = 0; t < 7; t++) {
                Due.is("12: CELL of " + KINDS[t] + ", day " + day, x.of(t, 1), due[day][t]);
            }
        }
        CarelessMist y = Scenes.of("child 5; walker 5 0; walker 4 0");
        y.go(1);
        Due.is("12: MET of two", y.of(0, 2), 2);
        Due.is("12: it goes on behind them", y.of(0, 1), 7);
        Due.is("12: they stay", y.ofWalker(0, 0), 5);
        CarelessMist z = Scenes.of("child 7; walker 5 0");
        z.go(1);
        Due.is("12: seen where it was", z.ofWalker(0, 4), 1);
    }

    private static void promise12ends() {
        CarelessMist x = Scenes.of("thing 5; bill 9; walker 5 0; walker 0 1");
        x.lead(0, 4, 9998);
        x.lead(1, 5, 9998);
        x.change(0, 2, 9998);
        x.go(1);
        Due.is("12: GOT 9999", x.ofWalker(0, 4), 9999);
        Due.is("12: MET 9999", x.of(0, 2), 9999);
        Due.is("12: STRAYED 9999", x.ofWalker(1, 5), 9999);
        Due.is("12: at most", x.go(2), 9999);
        Due.is("12: GOT at most", x.ofWalker(0, 4), 9999);
        Due.is("12: MET at most", x.of(0, 2), 9999);
        Due.is("12: STRAYED at most", x.ofWalker(1, 5), 9999);
        CarelessMist y = Scenes.of("");
        Due.is("12: 60 days", y.go(60), 0);
        Due.is("12: DAY", y.count(0), 60);
        y.go(1);
        Due.is("12: DAY on", y.count(0), 61);
        for (int n : new int[] {0, -1, 61, MIN, MAX}) {
            Scenes.finds("12: go(" + n + ")", () -> Scenes.of("cow 1; walker 3 0"), Scenes.BEYOND, o -> o.go(n));
        }
    }

    private static void promise13() {
        CarelessMist x = Scenes.of("thing 10; bill 3; cow 0; steeple 3; walker 7 0 cares 5; walker 7 0;"
                + "walker 15 2 cares 200; walker 0 2 cares 4; walker 6 7; walker 6 0 cares 1");
        int[] due = {0, 0, 0, 1 + 2 + 8 + 32, 1 + 4 + 8, 1 << 7 | 1 << 15 | 1 | 1 << 6, 1 << 10 | 1 << 3 | 1, 2};
        for (int what = 0; what < 8; what++) {
            Due.is("13: now(" + what + ")", x.now(what), due[what]);
        }
        x.go(2);
        Due.is("13: DAY", x.now(0), 2);
        Due.is("13: GOT of all", x.now(1), x.ofWalker(0, 4) + x.ofWalker(1, 4) + x.ofWalker(2, 4) + x.ofWalker(3, 4)
                + x.ofWalker(4, 4) + x.ofWalker(5, 4));
        x.lead(4, 4, 1000);
        x.lead(5, 4, 0);
        x.lead(5, 5, 30);
        x.lead(4, 5, 0);
        Due.is("13: GOT of all, led", x.now(1), x.count(3));
        Due.is("13: STRAYED of all", x.now(2), x.count(4));
        CarelessMist y = Scenes.of("thing 5; walker 0 7; walker 0 7");
        y.lead(0, 4, 9999);
        y.lead(1, 4, 9999);
        y.lead(0, 5, 70);
        y.lead(1, 5, 7);
        Due.is("13: GOT of two", y.now(1), 19998);
        Due.is("13: STRAYED of two", y.now(2), 77);
        Due.is("13: aiming nowhere", y.now(3), 0);
        y.lead(1, 3, 254);
        Due.is("13: caring for numbers without a thing", y.now(4), 0);
        Due.is("13: nobody sees it", y.now(7), 1);
        Due.is("13: no walkers", Scenes.of("cow 4; cow 4; inn 15").now(7), 7);
        Due.is("13: cells", Scenes.of("cow 4; cow 4; inn 15").now(6), 1 << 4 | 1 << 15);
        Due.is("13: for what the first cares", Scenes.of("cow 4; walker 4 0 cares 1; walker 9 0").now(4), 1);
        Due.is("13: the first one's cell", Scenes.of("cow 4; walker 4 0; walker 9 0").now(5), 1 << 4 | 1 << 9);
        Due.is("13: the walker's own cell", Scenes.of("bill 4; walker 4 0").now(3), 1);
        for (int what : new int[] {-1, 8, MIN, MAX}) {
            Scenes.finds("13: now(" + what + ")", () -> Scenes.of("cow 1; walker 3 0"), Scenes.BEYOND,
                    o -> o.now(what));
        }
    }
}
