import java.util.function.Supplier;

/** Promises 1 to 13, sentence by sentence, at their boundaries. */
final class CommonEdges {
    private static final int MIN = Integer.MIN_VALUE;
    private static final int MAX = Integer.MAX_VALUE;
    private static final Supplier<CarelessMist> SMALL = () -> Scenes.of("cow 1; cow 5; walker 3 0; walker 4 1");

    private CommonEdges() {
    }

    static void run() {
        aNewObject();
        turnAndListed();
        thingAndWalker();
        of();
        change();
        ofWalker();
        lead();
        sees();
        seenBy();
        go();
        goFarthest();
        now();
        nowSets();
    }

    private static void aNewObject() {
        Doc.about(1, "All as at first; no THINGS, no WALKERS; THE TAPE is empty, no image is kept.");
        CarelessMist x = new CarelessMist();
        for (int what = 0; what < 8; what++) {
            Doc.is("count(" + what + ")", x.count(what), what == 6 ? 1 : 0);
        }
        for (int which = -1; which < 7; which++) {
            Doc.is("status(" + which + ")", x.status(which), 0);
        }
        for (int i = 0; i < 6; i++) {
            Doc.is("listed(" + i + ")", x.listed(i), 0);
        }
        for (int spot = 0; spot < 10; spot++) {
            Doc.is("SPOT " + spot, x.as(spot, 0), Scenes.MISSING);
        }
        for (int s = 0; s < 4; s++) {
            Doc.is("sheet " + s, x.load(s), Scenes.MISSING);
        }
        Doc.is("no THINGS", x.of(0, 0), Scenes.BEYOND);
        Doc.is("no WALKERS", x.ofWalker(0, 0), Scenes.BEYOND);
        Doc.is("THE TAPE is empty", x.wipe(), 0);
        Doc.is("no image", x.undo(), Scenes.NONE);
        CarelessMist other = TermsEdges.crowded();
        Doc.is("whatever others are", other.count(1), 8);
        Doc.is("a second one is as new", new CarelessMist().count(1), 0);
        Doc.is("and has no image", new CarelessMist().tear(), 0);
    }

    private static void turnAndListed() {
        Doc.about(2, "THE LIST tells in place i (0 to 5) a TURN of a WALKER (0 to 5) about a THING (0 to 7): which it was "
                + "(10 * WALKER and THING).");
        CarelessMist x = new CarelessMist();
        Doc.is("the first place", x.turn(0, 5, 7), 0);
        Doc.is("the last place", x.turn(5, 4, 6), 0);
        Doc.is("which it was in the first", x.turn(0, 0, 0), 57);
        Doc.is("which it was in the last", x.turn(5, 0, 0), 46);
        Doc.is("the least was", x.turn(5, 0, 7), 0);
        Doc.is("WALKER 0", x.turn(5, 5, 0), 7);
        Doc.is("THING 0", x.turn(5, 1, 1), 50);
        Doc.is("all without a WALKER or a THING", x.count(1) + x.count(2) + x.status(-1), 0);
        for (int i = 0; i < 5; i++) {
            Doc.is("all others as they were", x.listed(i), 0);
        }

        Doc.about(2, "BEYOND.");
        int[][] wrong = {{-1, 0, 0}, {6, 0, 0}, {0, -1, 0}, {0, 6, 0}, {0, 0, -1}, {0, 0, 8}, {MIN, 0, 0}, {MAX, 0, 0},
            {0, MIN, 0}, {0, MAX, 0}, {0, 0, MIN}, {0, 0, MAX}};
        for (int[] w : wrong) {
            Doc.finds(w[0] + ", " + w[1] + ", " + w[2], SMALL, Scenes.BEYOND, o -> o.turn(w[0], w[1], w[2]));
        }

        Doc.about(3, "The TURN in a place of THE LIST.");
        CarelessMist y = new CarelessMist();
        for (int i = 0; i < 6; i++) {
            y.turn(i, i, 7 - i);
        }
        for (int i = 0; i < 6; i++) {
            Doc.is("place " + i, y.listed(i), 10 * i + 7 - i);
        }

        Doc.about(3, "BEYOND.");
        for (int i : new int[] {-1, 6, MIN, MAX}) {
            Doc.finds("place " + i, SMALL, Scenes.BEYOND, o -> o.listed(i));
        }
    }

    private static void thingAndWalker() {
        Doc.about(4, "A new THING AT a CELL: its number.");
        CarelessMist x = new CarelessMist();
        Doc.is("the first one", x.thing(6, 15), 0);
        Doc.is("the second one", x.thing(0, 0), 1);
        Doc.is("KIND 6 AT 15, MET 0", 1000 * x.of(0, 0) + 10 * x.of(0, 1) + x.of(0, 2), 6150);
        Doc.is("KIND 0 AT 0, MET 0", 1000 * x.of(1, 0) + 10 * x.of(1, 1) + x.of(1, 2), 0);

        Doc.about(4, "BEYOND.");
        for (int[] w : new int[][] {{-1, 0}, {7, 0}, {0, -1}, {0, 16}, {MAX, 0}, {MIN, 0}, {0, MAX}, {0, MIN}}) {
            Doc.finds(w[0] + ", " + w[1], CarelessMist::new, Scenes.BEYOND, o -> o.thing(w[0], w[1]));
        }

        Doc.about(4, "FULL.");
        Doc.is("the 8th", Scenes.of("cow 1; cow 1; cow 1; cow 1; cow 1; cow 1; cow 1").thing(0, 0), 7);
        Doc.finds("a 9th", () -> Scenes.of("cow 1; cow 1; cow 1; cow 1; cow 1; cow 1; cow 1; cow 1"), Scenes.FULL,
                o -> o.thing(0, 0));

        Doc.about(5, "A new WALKER AT a CELL, that AIMS at a number (0 to 7): its number.");
        CarelessMist y = new CarelessMist();
        Doc.is("the first one", y.walker(15, 7), 0);
        Doc.is("the second one", y.walker(0, 0), 1);
        Doc.is("AT 15, AIMS at 7", 10 * y.ofWalker(0, 0) + y.ofWalker(0, 1), 157);
        Doc.is("AT 0, AIMS at 0", 10 * y.ofWalker(1, 0) + y.ofWalker(1, 1), 0);
        for (int w = 0; w < 2; w++) {
            Doc.is("else as at first", 1000 * y.ofWalker(w, 2) + y.ofWalker(w, 3) + y.ofWalker(w, 4) + y.ofWalker(w, 5),
                    2000);
        }

        Doc.about(5, "BEYOND.");
        for (int[] w : new int[][] {{-1, 0}, {16, 0}, {0, -1}, {0, 8}, {MAX, 0}, {MIN, 0}, {0, MAX}, {0, MIN}}) {
            Doc.finds(w[0] + ", " + w[1], CarelessMist::new, Scenes.BEYOND, o -> o.walker(w[0], w[1]));
        }

        Doc.about(5, "FULL.");
        Doc.is("the 6th", Scenes.of("walker 1 1; walker 1 1; walker 1 1; walker 1 1; walker 1 1").walker(0, 0), 5);
        Doc.finds("a 7th", () -> Scenes.of("walker 1 1; walker 1 1; walker 1 1; walker 1 1; walker 1 1; walker 1 1"),
                Scenes.FULL, o -> o.walker(0, 0));
    }

    private static void of() {
        Doc.about(6, "Of a THING: what 0 KIND, 1 CELL, 2 MET, 3 CLEAR, 4 DIM, 5 MOVES.");
        CarelessMist x = Scenes.of("cow 9; lover 15");
        x.change(1, 2, 9999);
        int[] lover = {4, 15, 9999, 2, 2, 4};
        int[] cow = {2, 9, 0, 6, 1, 1};
        for (int what = 0; what < 6; what++) {
            Doc.is("of the last one, what " + what, x.of(1, what), lover[what]);
            Doc.is("of the first one, what " + what, x.of(0, what), cow[what]);
        }
        x.change(0, 0, 6);
        x.go(1);
        int[] inn = {6, 9, 0, 7, 2, 0};
        for (int what = 0; what < 6; what++) {
            Doc.is("as the KIND and the DAY are by then, what " + what, x.of(0, what), inn[what]);
        }

        Doc.about(6, "BEYOND.");
        for (int[] w : new int[][] {{-1, 0}, {2, 0}, {0, -1}, {0, 6}, {MIN, 0}, {MAX, 0}, {0, MIN}, {0, MAX}}) {
            Doc.finds(w[0] + ", " + w[1], SMALL, Scenes.BEYOND, o -> o.of(w[0], w[1]));
        }
        Doc.finds("no THINGS", CarelessMist::new, Scenes.BEYOND, o -> o.of(0, 0));
    }

    private static void change() {
        Doc.about(7, "KIND (what 0), CELL (1), MET (2) of a THING becomes v: what it was.");
        int[] first = {2, 5, 0};
        int[] most = {6, 15, 9999};
        for (int what = 0; what < 3; what++) {
            CarelessMist x = SMALL.get();
            Doc.is("to the most, what " + what, x.change(1, what, most[what]), first[what]);
            Doc.is("it is", x.of(1, what), most[what]);
            Doc.is("to the same", x.change(1, what, most[what]), most[what]);
            Doc.is("to the least, what " + what, x.change(1, what, 0), most[what]);
            Doc.is("it is then", x.of(1, what), 0);
            for (int other = 0; other < 3; other++) {
                Doc.is("all else stays", other == what ? 0 : x.of(1, other), other == what ? 0 : first[other]);
                Doc.is("the other one stays", x.of(0, other), new int[] {2, 1, 0}[other]);
            }
        }

        Doc.about(7, "BEYOND.");
        int[][] wrong = {{-1, 0, 0}, {2, 0, 0}, {0, -1, 0}, {0, 3, 0}, {0, 0, -1}, {0, 0, 7}, {0, 1, -1}, {0, 1, 16},
            {0, 2, -1}, {0, 2, 10000}, {MIN, 0, 0}, {MAX, 0, 0}, {0, MIN, 0}, {0, MAX, 0}, {0, 0, MIN}, {0, 0, MAX},
            {0, 1, MIN}, {0, 1, MAX}, {0, 2, MIN}, {0, 2, MAX}};
        for (int[] w : wrong) {
            Doc.finds(w[0] + ", " + w[1] + ", " + w[2], SMALL, Scenes.BEYOND, o -> o.change(w[0], w[1], w[2]));
        }
        Doc.finds("no THINGS", CarelessMist::new, Scenes.BEYOND, o -> o.change(0, 0, 0));
    }

    private static void ofWalker() {
        Doc.about(8, "Of a WALKER: what 0 CELL, 1 AIM, 2 PACE, 3 CARES, 4 GOT, 5 STRAYED.");
        CarelessMist x = Scenes.of("walker 15 7; walker 1 2");
        int[] led = {14, 6, 5, 255, 9999, 9998};
        for (int what = 0; what < 6; what++) {
            x.lead(0, what, led[what]);
        }
        int[] second = {1, 2, 2, 0, 0, 0};
        for (int what = 0; what < 6; what++) {
            Doc.is("of the first one, what " + what, x.ofWalker(0, what), led[what]);
            Doc.is("of the last one, what " + what, x.ofWalker(1, what), second[what]);
        }

        Doc.about(8, "BEYOND.");
        for (int[] w : new int[][] {{-1, 0}, {2, 0}, {0, -1}, {0, 6}, {MIN, 0}, {MAX, 0}, {0, MIN}, {0, MAX}}) {
            Doc.finds(w[0] + ", " + w[1], SMALL, Scenes.BEYOND, o -> o.ofWalker(w[0], w[1]));
        }
        Doc.finds("no WALKERS", CarelessMist::new, Scenes.BEYOND, o -> o.ofWalker(0, 0));
    }

    private static void lead() {
        Doc.about(9, "CELL (what 0), AIM (1), PACE (2), CARES (3), GOT (4), STRAYED (5) of a WALKER becomes v: what it "
                + "was.");
        int[] first = {4, 1, 2, 0, 0, 0};
        int[] least = {0, 0, 1, 0, 0, 0};
        int[] most = {15, 7, 5, 255, 9999, 9999};
        for (int what = 0; what < 6; what++) {
            CarelessMist x = SMALL.get();
            Doc.is("to the most, what " + what, x.lead(1, what, most[what]), first[what]);
            Doc.is("it is", x.ofWalker(1, what), most[what]);
            Doc.is("to the least, what " + what, x.lead(1, what, least[what]), most[what]);
            Doc.is("it is then", x.ofWalker(1, what), least[what]);
            for (int other = 0; other < 6; other++) {
                Doc.is("all else stays", other == what ? 0 : x.ofWalker(1, other), other == what ? 0 : first[other]);
                Doc.is("the other one stays", x.ofWalker(0, other), new int[] {3, 0, 2, 0, 0, 0}[other]);
            }
        }

        Doc.about(9, "BEYOND.");
        for (int what = 0; what < 6; what++) {
            int w = what;
            for (int v : new int[] {least[what] - 1, most[what] + 1, MIN, MAX}) {
                Doc.finds("what " + what + ", " + v, SMALL, Scenes.BEYOND, o -> o.lead(1, w, v));
            }
        }
        for (int[] w : new int[][] {{-1, 0}, {2, 0}, {0, -1}, {0, 6}, {MIN, 0}, {MAX, 0}, {0, MIN}, {0, MAX}}) {
            Doc.finds(w[0] + ", " + w[1], SMALL, Scenes.BEYOND, o -> o.lead(w[0], w[1], 1));
        }
        Doc.finds("no WALKERS", CarelessMist::new, Scenes.BEYOND, o -> o.lead(0, 0, 0));
    }

    private static void sees() {
        Doc.about(10, "THINGS that a WALKER SEES, as a set.");
        String eight = "thing 4; cow 14; steeple 15; child 5; lover 6; bill 8; inn 1; thing 12;";
        Doc.is("each just near enough", Scenes.of(eight + "walker 8 0").sees(0), 255);
        Doc.is("most just too far", Scenes.of("thing 3; cow 15; cow 1; child 4; lover 5; bill 7; inn 0; thing 13;"
                + "walker 8 0").sees(0), 0);
        Doc.is("caring for all", Scenes.of("thing 8; cow 9; steeple 7; child 8; lover 8; bill 3; inn 9; bill 13;"
                + "walker 8 0 cares 255").sees(0), 255);
        Doc.is("caring for all, just too far", Scenes.of("thing 9; cow 10; steeple 6; child 7; lover 9; bill 2; inn 6;"
                + "bill 14; walker 8 0 cares 255").sees(0), 0);
        Doc.is("no THINGS", Scenes.of("walker 8 0").sees(0), 0);
        Doc.is("the last WALKER", Scenes.of(eight + "walker 0 0; walker 0 0; walker 0 0; walker 0 0; walker 0 0;"
                + "walker 8 0").sees(5), 255);
        Scenes.onlyAsks("10: sees", TermsEdges::crowded, o -> o.sees(2));

        Doc.about(10, "BEYOND.");
        for (int w : new int[] {-1, 2, MIN, MAX}) {
            Doc.finds("" + w, SMALL, Scenes.BEYOND, o -> o.sees(w));
        }
        Doc.finds("no WALKERS", () -> Scenes.of("cow 1"), Scenes.BEYOND, o -> o.sees(0));
    }

    private static void seenBy() {
        Doc.about(11, "WALKERS that SEE a THING, as a set.");
        String six = "walker 4 7; walker 12 7; walker 8 7; walker 8 7 cares 1; walker 5 7; walker 11 7;";
        Doc.is("by all", Scenes.of("thing 8;" + six).seenBy(0), 63);
        Doc.is("by none", Scenes.of("thing 8; walker 3 7; walker 13 7; walker 7 7 cares 1; walker 9 7 cares 1").seenBy(0),
                0);
        Doc.is("no WALKERS", Scenes.of("steeple 8").seenBy(0), 0);
        Doc.is("the last THING", Scenes.of("bill 0; bill 0; bill 0; bill 0; bill 0; bill 0; bill 0; thing 8; walker 4 7;"
                + "walker 3 7; walker 8 7 cares 128").seenBy(7), 5);
        Scenes.onlyAsks("11: seenBy", TermsEdges::crowded, o -> o.seenBy(2));

        Doc.about(11, "BEYOND.");
        for (int t : new int[] {-1, 2, MIN, MAX}) {
            Doc.finds("" + t, SMALL, Scenes.BEYOND, o -> o.seenBy(t));
        }
        Doc.finds("no THINGS", () -> Scenes.of("walker 1 1"), Scenes.BEYOND, o -> o.seenBy(0));
    }

    private static void go() {
        Doc.about(12, "n DAYS (1 to 60): GOT of all together then.");
        String items = "thing 5; bill 9; walker 5 0; walker 1 0; walker 9 1; walker 9 7; walker 0 1; walker 5 0 cares 1;"
                + "turn 0 3 0; turn 1 4 1; turn 5 1 0";
        for (int n : new int[] {1, 2, 59, 60}) {
            CarelessMist x = Scenes.of(items);
            CarelessMist y = Scenes.of(items);
            int sum = 0;
            for (int d = 0; d < n; d++) {
                sum = y.go(1);
            }
            Doc.is(n + " DAYS", x.go(n), sum);
            Doc.is("DAY", x.count(0), n);
            Doc.is("all is the same", Scenes.stateOf(x).equals(Scenes.stateOf(y)) ? 1 : 0, 1);
        }
        Doc.is("no WALKERS", Scenes.of("thing 5").go(60), 0);
        CarelessMist six = Scenes.of("thing 5; walker 5 0; walker 5 0; walker 5 0; walker 5 0; walker 5 0; walker 5 0");
        for (int w = 0; w < 6; w++) {
            six.lead(w, 4, 9990);
        }
        Doc.is("six at most", six.go(60), 59994);

        Doc.about(12, "BEYOND.");
        for (int n : new int[] {0, -1, 61, MIN, MAX}) {
            Doc.finds("" + n, SMALL, Scenes.BEYOND, o -> o.go(n));
        }
    }

    private static void goFarthest() {
        Doc.about(12, "STATE: DAY would be above 99999.");
        CarelessMist x = Scenes.of("");
        for (int i = 1; i <= 500; i++) {
            Doc.is("as far as calls go", x.go(60), 0);
        }
        Doc.is("DAY", x.count(0), 30000);
        for (int n : new int[] {1, 2, 59, 60}) {
            CarelessMist y = Scenes.of("thing 5; walker 5 0");
            if (Doc.makeDay(y, 99999 - n)) {
                Doc.is(n + " DAYS to 99999", y.go(n), n);
                Doc.is("DAY", y.count(0), 99999);
                Doc.is("a DAY more", y.go(1), -1000005);
                Doc.is("60 more", y.go(60), -1000005);
                Doc.is("none goes by", 100 * y.count(3) + y.status(4), 100 * n + 2);
            }
            CarelessMist z = Scenes.of("thing 5; walker 5 0");
            if (Doc.makeDay(z, 100000 - n)) {
                Doc.is(n + " DAYS to 100000", z.go(n), -1000005);
                Doc.is("not one of them goes by", 100 * z.count(3) + z.status(4), 1);
                Doc.is("DAY stays", z.count(0), 100000 - n);
            }
        }
    }

    private static void now() {
        Doc.about(13, "What 0 DAY, 1 GOT of all together, 2 STRAYED of all together");
        CarelessMist x = Scenes.of("thing 5; walker 0 7; walker 0 7; walker 0 7; walker 0 7; walker 0 7; walker 0 7");
        for (int what = 0; what < 3; what++) {
            Doc.is("at first, what " + what, x.now(what), 0);
        }
        for (int w = 0; w < 6; w++) {
            x.lead(w, 4, 9999);
            x.lead(w, 5, 9998);
        }
        x.go(60);
        x.go(7);
        Doc.is("DAY", x.now(0), 67);
        Doc.is("GOT of six, the most", x.now(1), 59994);
        Doc.is("STRAYED of six", x.now(2), 59988);
        x.lead(0, 4, 1);
        x.lead(5, 5, 2);
        Doc.is("GOT of the first one, less", x.now(1), 49996);
        Doc.is("STRAYED of the last one, less", x.now(2), 49992);

        Doc.about(13, "BEYOND.");
        for (int what : new int[] {-1, 8, MIN, MAX}) {
            Doc.finds("" + what, SMALL, Scenes.BEYOND, o -> o.now(what));
        }
        Scenes.onlyAsks("13: now", TermsEdges::crowded, o -> {
            int sum = 0;
            for (int what = 0; what < 8; what++) {
                sum += o.now(what);
            }
            return sum;
        });
    }

    private static void nowSets() {
        Doc.about(13, "3 WALKERS that would go towards what they AIM at now (by sight or beside one that SEES it; as all "
                + "are), as a set");
        Doc.is("no WALKERS", Scenes.of("thing 5").now(3), 0);
        Doc.is("nowhere", Scenes.of("thing 5; walker 5 1; walker 5 7").now(3), 0);
        Doc.is("by sight, just near enough", Scenes.of("thing 5; walker 1 0; walker 9 0").now(3), 3);
        Doc.is("just too far", Scenes.of("thing 5; walker 0 0; walker 10 0").now(3), 0);
        Doc.is("beside one", Scenes.of("thing 5; walker 4 0 cares 1; walker 4 7").now(3), 1);
        Doc.is("beside one before it", Scenes.of("thing 5; walker 4 7; walker 4 0 cares 1").now(3), 2);
        Doc.is("not beside one", Scenes.of("thing 5; walker 4 0 cares 1; walker 3 7; walker 5 7").now(3), 0);
        Doc.is("beside one that doesn't", Scenes.of("thing 5; walker 4 0 cares 1; walker 4 0 cares 1").now(3), 0);
        Doc.is("AT it", Scenes.of("bill 5; walker 5 0").now(3), 1);
        Doc.is("as all are: 0 hasn't gone yet", Scenes.of("thing 10; walker 7 0; walker 7 0 cares 1").now(3), 3);
        Doc.is("as all are: THE LIST hasn't told yet", Scenes.of("thing 5; walker 4 0; turn 0 0 0").now(3), 1);
        Doc.is("all six", Scenes.of("steeple 5; walker 0 0; walker 15 0; walker 5 0; walker 5 0; walker 1 0; walker 2 0")
                .now(3), 63);

        Doc.about(13, "4 THINGS for which somebody CARES, as a set");
        Doc.is("no WALKERS", Scenes.of("thing 5; thing 5").now(4), 0);
        Doc.is("none", Scenes.of("thing 5; walker 5 0; walker 5 0").now(4), 0);
        Doc.is("two CARE", Scenes.of("thing 5; cow 5; inn 5; walker 5 0 cares 1; walker 5 0 cares 5").now(4), 5);
        Doc.is("all", Scenes.of("cow 1; cow 1; cow 1; cow 1; cow 1; cow 1; cow 1; cow 1; walker 5 0 cares 127;"
                + "walker 5 0 cares 128").now(4), 255);
        Doc.is("numbers of no THING", Scenes.of("thing 5; walker 5 0 cares 254").now(4), 0);
        Doc.is("no THINGS", Scenes.of("walker 5 0 cares 255").now(4), 0);

        Doc.about(13, "5 CELLS with WALKERS, as a set");
        Doc.is("no WALKERS", Scenes.of("thing 5").now(5), 0);
        Doc.is("0 and 15", Scenes.of("thing 5; walker 15 0; walker 0 0; walker 15 0").now(5), 1 << 15 | 1);
        Doc.is("of all six", Scenes.of("walker 0 0; walker 3 0; walker 4 0; walker 7 0; walker 9 0; walker 15 0").now(5),
                1 | 1 << 3 | 1 << 4 | 1 << 7 | 1 << 9 | 1 << 15);

        Doc.about(13, "6 CELLS with THINGS, as a set");
        Doc.is("no THINGS", Scenes.of("walker 5 0").now(6), 0);
        Doc.is("0 and 15", Scenes.of("walker 5 0; thing 0; bill 15; cow 15; inn 0").now(6), 1 << 15 | 1);
        Doc.is("of all eight", Scenes.of("cow 0; cow 2; cow 3; cow 6; cow 8; cow 9; cow 12; cow 15").now(6),
                1 | 1 << 2 | 1 << 3 | 1 << 6 | 1 << 8 | 1 << 9 | 1 << 12 | 1 << 15);

        Doc.about(13, "7 THINGS that nobody SEES, as a set.");
        Doc.is("no THINGS", Scenes.of("walker 5 0").now(7), 0);
        Doc.is("no WALKERS", Scenes.of("cow 1; cow 1; cow 1; cow 1; cow 1; cow 1; cow 1; cow 1").now(7), 255);
        Doc.is("one SEES one, one the other", Scenes.of("thing 0; thing 15; thing 7; walker 0 7; walker 15 7").now(7), 4);
        Doc.is("who CARES and doesn't SEE", Scenes.of("thing 5; walker 4 7 cares 1").now(7), 1);
    }
}
