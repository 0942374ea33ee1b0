import java.util.function.Supplier;

/** Promises 14 to 27, sentence by sentence, at their boundaries. */
final class AheadEdges {
    private static final int MIN = Integer.MIN_VALUE;
    private static final int MAX = Integer.MAX_VALUE;
    private static final Supplier<CarelessMist> SMALL = () -> Scenes.of("cow 1; cow 5; walker 3 0; walker 4 1");
    private static final Supplier<CarelessMist> NOBODY = CarelessMist::new;
    private static final String BUSY = "thing 12; cow 3; child 7; lover 15; bill 5; inn 9; walker 1 2 pace 4 cares 23;"
            + "walker 13 3 pace 2 cares 14; walker 3 1 pace 3 cares 22; walker 12 3 pace 5 cares 54; turn 0 3 3;"
            + "turn 1 0 2; turn 2 2 1; turn 3 1 4; turn 4 3 3; turn 5 1 1";

    private AheadEdges() {
    }

    static void run() {
        ahead();
        later();
        arrives();
        spies();
        meet();
        startFor();
        aimFor();
        kindFor();
        paceFor();
        giveUp();
        fits();
        kinds();
        morning();
        morningFarthest();
        odds();
        seed();
    }

    /** A call that is told one of the common and a number. */
    private interface Asks {
        int ask(CarelessMist x, int who, int v);
    }

    /** No such one, below and above; no such number, below and above; none at all. */
    private static void beyond(Asks call, int least, int most) {
        for (int who : new int[] {-1, 2, MIN, MAX}) {
            Doc.finds("no such one, " + who, SMALL, Scenes.BEYOND, o -> call.ask(o, who, least));
        }
        for (int v : new int[] {least - 1, most + 1, MIN, MAX}) {
            Doc.finds("" + v, SMALL, Scenes.BEYOND, o -> call.ask(o, 1, v));
        }
        Doc.finds("nobody", NOBODY, Scenes.BEYOND, o -> call.ask(o, 0, least));
    }

    // ---- what will be

    private static void ahead() {
        Doc.about(14, "What 1, 2 (as in of()) of a THING behind n (0 to 100) DAYS.");
        for (int n : new int[] {0, 1, 99, 100}) {
            CarelessMist x = Scenes.of(BUSY);
            CarelessMist y = Scenes.of(BUSY);
            for (int d = 0; d < n; d++) {
                y.go(1);
            }
            for (int t = 0; t < 6; t++) {
                Doc.is("CELL behind " + n, x.ahead(t, 1, n), y.of(t, 1));
                Doc.is("MET behind " + n, x.ahead(t, 2, n), y.of(t, 2));
            }
        }
        CarelessMist most = Scenes.of("thing 5; walker 5 0");
        most.change(0, 2, 9900);
        Doc.is("MET behind 99", most.ahead(0, 2, 99), 9999);
        Doc.is("MET behind 100, at most", most.ahead(0, 2, 100), 9999);
        Doc.is("nothing changed", most.of(0, 2), 9900);
        Scenes.onlyAsks("14: ahead", TermsEdges::crowded, o -> o.ahead(3, 1, 100));

        Doc.about(14, "BEYOND.");
        beyond((o, t, n) -> o.ahead(t, 1, n), 0, 100);
        for (int what : new int[] {0, 3, 4, 5, -1, 6, MIN, MAX}) {
            Doc.finds("what " + what, SMALL, Scenes.BEYOND, o -> o.ahead(0, what, 1));
        }
    }

    private static void later() {
        Doc.about(15, "What 0, 3 to 5 (as in ofWalker()) of a WALKER behind n (0 to 100) DAYS.");
        for (int n : new int[] {0, 1, 99, 100}) {
            CarelessMist x = Scenes.of(BUSY);
            CarelessMist y = Scenes.of(BUSY);
            for (int d = 0; d < n; d++) {
                y.go(1);
            }
            for (int w = 0; w < 4; w++) {
                for (int what : new int[] {0, 3, 4, 5}) {
                    Doc.is("what " + what + " behind " + n, x.later(w, what, n), y.ofWalker(w, what));
                }
            }
        }
        CarelessMist most = Scenes.of("thing 5; bill 9; walker 5 0; walker 10 1");
        most.lead(0, 4, 9999);
        most.lead(1, 5, 9999);
        Doc.is("GOT behind a DAY, at most", most.later(0, 4, 1), 9999);
        Doc.is("STRAYED behind a DAY, at most", most.later(1, 5, 1), 9999);
        Scenes.onlyAsks("15: later", TermsEdges::crowded, o -> o.later(3, 4, 100));

        Doc.about(15, "BEYOND.");
        beyond((o, w, n) -> o.later(w, 0, n), 0, 100);
        for (int what : new int[] {1, 2, -1, 6, MIN, MAX}) {
            Doc.finds("what " + what, SMALL, Scenes.BEYOND, o -> o.later(0, what, 1));
        }
    }

    private static void arrives() {
        Doc.about(16, "Behind how many DAYS (0 to 200, the fewest) GOT of a WALKER is v (0 to 9999) or more.");
        CarelessMist x = Scenes.of("thing 5; walker 5 0; walker 1 0");
        Doc.is("0 of 0", x.arrives(0, 0), 0);
        Doc.is("1", x.arrives(0, 1), 1);
        Doc.is("1 of the second one, the fewest DAYS", x.arrives(1, 1), 2);
        Doc.is("199", x.arrives(0, 199), 199);
        Doc.is("200", x.arrives(0, 200), 200);
        Doc.is("199 of the second one", x.arrives(1, 199), 200);
        x.lead(0, 4, 9799);
        Doc.is("9999 on the last DAY", x.arrives(0, 9999), 200);
        Doc.is("what is more already", x.arrives(0, 9798), 0);
        Doc.is("what is so already", x.arrives(0, 9799), 0);
        Doc.is("what is so tomorrow", x.arrives(0, 9800), 1);
        x.lead(0, 4, 9999);
        Doc.is("the most", x.arrives(0, 9999), 0);
        Scenes.onlyAsks("16: arrives", TermsEdges::crowded, o -> o.arrives(4, 200));

        Doc.about(16, "BEYOND.");
        beyond((o, w, v) -> o.arrives(w, v), 0, 9999);

        Doc.about(16, "NONE.");
        Doc.finds("a DAY too late", () -> Scenes.of("thing 5; walker 5 0"), Scenes.NONE, o -> o.arrives(0, 201));
        Doc.finds("the second one, a DAY too late", () -> Scenes.of("thing 5; walker 1 0"), Scenes.NONE,
                o -> o.arrives(0, 200));
        Doc.finds("nowhere", () -> Scenes.of("thing 5; walker 5 1"), Scenes.NONE, o -> o.arrives(0, 1));
    }

    private static void spies() {
        Doc.about(17, "Behind how many DAYS (0 to 200, the fewest) a WALKER SEES a THING.");
        Doc.is("now", Scenes.of("thing 5; walker 1 7").spies(0, 0), 0);
        Doc.is("what it doesn't AIM at", Scenes.of("bill 8; child 2; walker 8 0").spies(0, 1), 2);
        Doc.is("tomorrow", Scenes.of("child 4; walker 8 7").spies(0, 0), 1);
        Doc.is("when it doesn't CARE any more", Scenes.of("thing 5; walker 6 7 cares 1; turn 5 0 0").spies(0, 0), 6);
        Doc.is("it alone, not one beside it", Scenes.of("bill 5; walker 4 0; walker 4 0 cares 1").spies(0, 0), 1);
        Doc.is("on DAY 200", Scenes.of(AheadTests.SPIES_200).spies(4, 0), 200);
        Scenes.onlyAsks("17: spies", TermsEdges::crowded, o -> o.spies(4, 3));

        Doc.about(17, "BEYOND.");
        for (int[] w : new int[][] {{-1, 0}, {2, 0}, {0, -1}, {0, 2}, {MIN, 0}, {MAX, 0}, {0, MIN}, {0, MAX}}) {
            Doc.finds(w[0] + ", " + w[1], SMALL, Scenes.BEYOND, o -> o.spies(w[0], w[1]));
        }
        Doc.finds("nobody", NOBODY, Scenes.BEYOND, o -> o.spies(0, 0));
        Doc.finds("no THING, whatever it AIMS at", () -> Scenes.of("walker 1 0"), Scenes.BEYOND, o -> o.spies(0, 0));

        Doc.about(17, "NONE.");
        Doc.finds("on DAY 201", () -> Scenes.of(AheadTests.SPIES_201), Scenes.NONE, o -> o.spies(0, 5));
        CarelessMist x = Scenes.of(AheadTests.SPIES_201);
        x.go(1);
        Doc.is("a DAY on", x.spies(0, 5), 200);
        Doc.finds("never", () -> Scenes.of("thing 5; walker 10 7"), Scenes.NONE, o -> o.spies(0, 0));
    }

    private static void meet() {
        Doc.about(18, "Behind how many DAYS (0 to 200, the fewest) two WALKERS are AT one CELL.");
        CarelessMist x = Scenes.of("thing 5; walker 1 0; walker 9 0; walker 1 7; walker 6 7");
        Doc.is("now", x.meet(0, 2), 0);
        Doc.is("AT what both AIM at", x.meet(0, 1), 2);
        Doc.is("the other way round", x.meet(1, 0), 2);
        Doc.is("by straying round", Scenes.of("bill 8; walker 3 7; walker 14 0").meet(0, 1), 5);
        Doc.is("on DAY 200", Scenes.of(AheadTests.MEET_200).meet(2, 3), 200);
        Doc.is("on DAY 200, the other way round", Scenes.of(AheadTests.MEET_200).meet(3, 2), 200);
        Scenes.onlyAsks("18: meet", TermsEdges::crowded, o -> o.meet(2, 3));

        Doc.about(18, "BEYOND: also one and the same.");
        for (int[] w : new int[][] {{-1, 0}, {2, 0}, {0, -1}, {0, 2}, {0, 0}, {1, 1}, {2, 2}, {-1, -1}, {MIN, 0},
            {MAX, 0}, {0, MIN}, {0, MAX}}) {
            Doc.finds(w[0] + ", " + w[1], SMALL, Scenes.BEYOND, o -> o.meet(w[0], w[1]));
        }
        Doc.finds("nobody", NOBODY, Scenes.BEYOND, o -> o.meet(0, 1));

        Doc.about(18, "NONE.");
        Doc.finds("on DAY 201", () -> Scenes.of(AheadTests.MEET_201), Scenes.NONE, o -> o.meet(0, 3));
        CarelessMist y = Scenes.of(AheadTests.MEET_201);
        y.go(1);
        Doc.is("a DAY on", y.meet(0, 3), 200);
        Doc.finds("never", () -> Scenes.of("walker 3 7; walker 4 7"), Scenes.NONE, o -> o.meet(0, 1));
    }

    // ---- how to get there

    private static void startFor() {
        Doc.about(19, "The CELL AT which a WALKER must be now, so that GOT of it is most behind n (0 to 40) DAYS.");
        Doc.is("no DAYS", Scenes.of("thing 5; walker 5 0").startFor(0, 0), 0);
        Doc.is("CELL 0", Scenes.of("thing 2; walker 9 0").startFor(0, 1), 0);
        // From 15 it strays to 0 ahead of the CHILD and goes with it for three DAYS; nowhere else is better.
        Doc.is("CELL 15", Scenes.of("child 14; walker 0 0 pace 1 cares 1").startFor(0, 6), 15);
        Doc.is("40 DAYS", Scenes.of("thing 5; walker 12 0 pace 1").startFor(0, 40), 4);
        CarelessMist most = Scenes.of("thing 5; walker 12 0");
        most.lead(0, 4, 9999);
        Doc.is("GOT can't be more", most.startFor(0, 9), 0);
        most.lead(0, 4, 9998);
        Doc.is("GOT can be one more", most.startFor(0, 9), 0);
        most.lead(0, 4, 9991);
        Doc.is("GOT can be eight more", most.startFor(0, 9), 1);
        CarelessMist two = Scenes.of("thing 5; bill 9; walker 5 0; walker 0 1");
        Doc.is("of the one that is asked for", two.startFor(1, 1), 8);
        Scenes.onlyAsks("19: startFor", TermsEdges::crowded, o -> o.startFor(1, 40));

        Doc.about(19, "BEYOND.");
        beyond((o, w, n) -> o.startFor(w, n), 0, 40);
    }

    private static void aimFor() {
        Doc.about(20, "The number at which it must AIM now for that.");
        Doc.is("no DAYS", Scenes.of("bill 9; thing 5; walker 5 0").aimFor(0, 0), 0);
        Doc.is("no THINGS", Scenes.of("walker 5 7").aimFor(0, 40), 0);
        Doc.is("0", Scenes.of("thing 5; thing 9; walker 5 1").aimFor(0, 1), 0);
        Doc.is("7", Scenes.of("bill 1; bill 1; bill 1; bill 1; bill 1; bill 1; bill 1; bill 9; walker 8 0").aimFor(0, 40),
                7);
        Doc.is("better for few DAYS", Scenes.of("lover 6; thing 5; walker 6 0 pace 1").aimFor(0, 1), 0);
        Doc.is("better for many", Scenes.of("lover 6; thing 5; walker 6 0 pace 1").aimFor(0, 40), 1);
        CarelessMist two = Scenes.of("thing 5; bill 9; walker 5 1; walker 8 0");
        Doc.is("of the one that is asked for", two.aimFor(1, 1), 1);
        Scenes.onlyAsks("20: aimFor", TermsEdges::crowded, o -> o.aimFor(1, 40));

        Doc.about(20, "BEYOND.");
        beyond((o, w, n) -> o.aimFor(w, n), 0, 40);
    }

    private static void kindFor() {
        Doc.about(21, "The KIND of which a THING must be, so that its MET is most behind n (0 to 40) DAYS.");
        Doc.is("no DAYS", Scenes.of("lover 5; walker 5 0").kindFor(0, 0), 0);
        Doc.is("no WALKERS", Scenes.of("lover 5").kindFor(0, 40), 0);
        Doc.is("0, as all that stay", Scenes.of("bill 8; walker 8 0").kindFor(0, 40), 0);
        Doc.is("1", Scenes.of("inn 2; walker 9 0 pace 4; walker 0 0 pace 2").kindFor(0, 5), 1);
        Doc.is("2", Scenes.of("cow 12; walker 15 0 pace 1").kindFor(0, 4), 2);
        Doc.is("3", Scenes.of("thing 13; walker 0 0 pace 3").kindFor(0, 5), 3);
        Doc.is("4", Scenes.of("lover 13; walker 0 0 pace 4 cares 1").kindFor(0, 3), 4);
        Doc.is("5", Scenes.of("steeple 7; walker 4 0 pace 4 cares 1; walker 9 0 pace 2 cares 1").kindFor(0, 3), 5);
        Doc.is("6", Scenes.of("bill 9; walker 3 0 pace 4 cares 1; walker 3 0 pace 1").kindFor(0, 4), 6);
        Doc.is("of the last THING", Scenes.of("bill 0; bill 9; walker 3 1 pace 4 cares 2; walker 3 1 pace 1")
                .kindFor(1, 4), 6);
        CarelessMist most = Scenes.of("lover 5; walker 5 0; walker 5 0");
        most.change(0, 2, 9999);
        Doc.is("MET can't be more", most.kindFor(0, 40), 0);
        Scenes.onlyAsks("21: kindFor", TermsEdges::crowded, o -> o.kindFor(1, 40));

        Doc.about(21, "BEYOND.");
        beyond((o, t, n) -> o.kindFor(t, n), 0, 40);
    }

    private static void paceFor() {
        Doc.about(22, "The least PACE with which GOT of a WALKER is more than now behind n (0 to 40) DAYS.");
        for (int pace = 1; pace < 6; pace++) {
            for (int now = 1; now < 6; now++) {
                String items = "steeple 10; walker " + (10 - 2 * pace) + " 0 pace " + now;
                Doc.is("PACE " + now + " by now, " + 2 * pace + " CELLS in 2 DAYS", Scenes.of(items).paceFor(0, 2), pace);
            }
        }
        Doc.is("a CELL more in 2 DAYS", Scenes.of("steeple 10; walker 7 0").paceFor(0, 2), 2);
        Doc.is("40 DAYS", Scenes.of("steeple 15; walker 0 0 pace 5").paceFor(0, 40), 1);
        CarelessMist x = Scenes.of("steeple 10; walker 10 0");
        x.lead(0, 4, 9998);
        Doc.is("9999 is more than 9998", x.paceFor(0, 1), 1);
        Scenes.onlyAsks("22: paceFor", TermsEdges::crowded, o -> o.paceFor(1, 40));

        Doc.about(22, "BEYOND.");
        beyond((o, w, n) -> o.paceFor(w, n), 0, 40);

        Doc.about(22, "NONE.");
        Doc.finds("no DAYS", () -> Scenes.of("steeple 10; walker 10 0"), Scenes.NONE, o -> o.paceFor(0, 0));
        Doc.finds("6 CELLS in a DAY", () -> Scenes.of("steeple 10; walker 4 0"), Scenes.NONE, o -> o.paceFor(0, 1));
        Doc.finds("nowhere", () -> Scenes.of("steeple 10; walker 10 1"), Scenes.NONE, o -> o.paceFor(0, 40));
        Doc.finds("GOT can't be more", () -> {
            CarelessMist y = Scenes.of("steeple 10; walker 10 0");
            y.lead(0, 4, 9999);
            return y;
        }, Scenes.NONE, o -> o.paceFor(0, 40));
    }

    private static void giveUp() {
        Doc.about(23, "The set of fewest THINGS such that, if it doesn't CARE for these now, GOT of a WALKER is more than "
                + "now behind n (0 to 20) DAYS; of several the least.");
        String eight = "bill 0; bill 0; bill 0; bill 0; bill 0; bill 0; bill 0; steeple 15;";
        Doc.is("none need be", Scenes.of(eight + "walker 15 7 cares 255").giveUp(0, 1), 0);
        Doc.is("none, if it CARES for none", Scenes.of(eight + "walker 5 7 pace 5").giveUp(0, 2), 0);
        Doc.is("the last THING", Scenes.of(eight + "walker 5 7 pace 5 cares 128").giveUp(0, 2), 128);
        Doc.is("the last of all", Scenes.of(eight + "walker 5 7 pace 5 cares 255").giveUp(0, 2), 128);
        Doc.is("the first THING", Scenes.of("steeple 15; walker 5 0 pace 5 cares 255").giveUp(0, 2), 1);
        Doc.is("20 DAYS are enough to stray", Scenes.of("thing 8; walker 9 0 cares 1").giveUp(0, 20), 0);
        Doc.is("14 are not", Scenes.of("thing 8; walker 9 0 cares 1").giveUp(0, 14), 1);
        Doc.is("two at once", AheadTests.givingUpTwo().giveUp(1, 4), 3);
        Doc.is("the fewest, not the least", Scenes.of("cow 1; child 13; cow 0; walker 6 2 pace 2 cares 7;"
                + "walker 7 0 pace 1 cares 0; walker 3 0 pace 1 cares 4; walker 15 1 pace 2 cares 4;"
                + "turn 0 1 0; turn 1 0 2; turn 2 0 2; turn 3 2 2; turn 4 1 0; turn 5 3 1").giveUp(0, 13), 4);
        Doc.is("of several the least", Scenes.of("steeple 0; steeple 10; thing 2; walker 10 0 pace 1 cares 6;"
                + "walker 10 2 pace 2 cares 5; walker 3 2 pace 1 cares 4; walker 3 0 pace 5 cares 7;"
                + "turn 0 0 0; turn 1 1 0; turn 2 0 0; turn 3 2 1; turn 4 3 2; turn 5 1 1").giveUp(3, 8), 1);
        Doc.is("now, whatever THE LIST tells", Scenes.of("thing 8; walker 6 0 cares 1; turn 0 0 0").giveUp(0, 1), 0);
        CarelessMist x = Scenes.of("thing 8; walker 6 0 cares 1");
        x.lead(0, 4, 9998);
        Doc.is("9999 is more than 9998", x.giveUp(0, 1), 1);
        Scenes.onlyAsks("23: giveUp", TermsEdges::crowded, o -> o.giveUp(1, 20));

        Doc.about(23, "BEYOND.");
        beyond((o, w, n) -> o.giveUp(w, n), 0, 20);

        Doc.about(23, "NONE.");
        Doc.finds("no DAYS", () -> Scenes.of("thing 8; walker 8 0 cares 1"), Scenes.NONE, o -> o.giveUp(0, 0));
        Doc.finds("too few DAYS", () -> Scenes.of("thing 8; walker 4 0 cares 1"), Scenes.NONE, o -> o.giveUp(0, 1));
        Doc.finds("nowhere", () -> Scenes.of("thing 8; walker 8 1 cares 3"), Scenes.NONE, o -> o.giveUp(0, 20));
        Doc.finds("THE LIST tells otherwise at once", () -> Scenes.of("thing 8; walker 6 0; turn 0 0 0"), Scenes.NONE,
                o -> o.giveUp(0, 1));
        Doc.finds("GOT can't be more", () -> {
            CarelessMist y = Scenes.of("thing 8; walker 8 0 cares 1");
            y.lead(0, 4, 9999);
            return y;
        }, Scenes.NONE, o -> o.giveUp(0, 20));
    }

    // ---- told ways

    /** That a sheet of no such number, a missing one and no such one are told, in this order. */
    private static void sheetAndOne(int section, Asks call, String noSuchOne) {
        Doc.about(section, "BEYOND: no such sheet.");
        for (int s : new int[] {-1, 4, MIN, MAX}) {
            Doc.finds("sheet " + s, SMALL, Scenes.BEYOND, o -> call.ask(o, s, 0));
            Doc.finds("sheet " + s + ", and no such one", SMALL, Scenes.BEYOND, o -> call.ask(o, s, 2));
        }
        Doc.about(section, "MISSING.");
        for (int s = 0; s < 4; s++) {
            int sheet = s;
            Doc.finds("sheet " + s, SMALL, Scenes.MISSING, o -> call.ask(o, sheet, 0));
        }
        Doc.finds("and no such one", SMALL, Scenes.MISSING, o -> call.ask(o, 0, 2));
        Doc.finds("it was one", () -> {
            CarelessMist x = AheadTests.withSheet("cow 1; walker 1 0", 3);
            x.sheet(2, 0, 1);
            return x;
        }, Scenes.MISSING, o -> call.ask(o, 2, 0));
        Doc.about(section, noSuchOne);
        for (int who : new int[] {-1, 2, MIN, MAX}) {
            Doc.finds("" + who, () -> AheadTests.withSheet("cow 1; cow 5; walker 3 0; walker 4 1", 3), Scenes.BEYOND,
                    o -> call.ask(o, 2, who));
        }
        Doc.finds("nobody", () -> AheadTests.withSheet("", 3), Scenes.BEYOND, o -> call.ask(o, 2, 0));
    }

    private static void fits() {
        Doc.about(24, "CELLS AT which a WALKER could be now, as a set, so that its CELL behind each DAY further on is as a "
                + "sheet tells (number i: behind i + 1 DAYS; -1: any).");
        String items = "thing 8; walker 0 0; walker 3 7";
        Doc.is("no numbers", AheadTests.withSheet(items).fits(2, 0), 65535);
        Doc.is("number 0: behind a DAY", AheadTests.withSheet(items, 8).fits(2, 0), 0x7C0);
        Doc.is("number 1: behind 2 DAYS", AheadTests.withSheet(items, -1, 8).fits(2, 0), 0x1FF0);
        Doc.is("both told", AheadTests.withSheet(items, 6, 8).fits(2, 0), 1 << 4);
        Doc.is("the first one false", AheadTests.withSheet(items, 3, 8).fits(2, 0), 0);
        Doc.is("the last one false", AheadTests.withSheet(items, 6, 7).fits(2, 0), 0);
        Doc.is("CELL 0", AheadTests.withSheet(items, 1).fits(2, 0), 1);
        Doc.is("CELL 15, behind it 0", AheadTests.withSheet(items, 0).fits(2, 0), 1 << 15);
        Doc.is("of the last WALKER", AheadTests.withSheet(items, 15, 15).fits(2, 1), 1 << 15);
        for (int none : new int[] {-2, 16, 255, -32768, 32767}) {
            Doc.is("no CELL, " + none, AheadTests.withSheet(items, none).fits(2, 0), 0);
        }
        int[] any = new int[40];
        java.util.Arrays.fill(any, -1);
        Doc.is("40 times any", AheadTests.withSheet(items, any).fits(2, 0), 65535);
        any[39] = 8;
        // Every CELL leads to 8 in 40 DAYS, by straying round if need be.
        Doc.is("number 39: behind 40 DAYS", AheadTests.withSheet(items, any).fits(2, 0), 65535);
        any[39] = 7;
        Doc.is("number 39 false", AheadTests.withSheet(items, any).fits(2, 0), 0);
        for (int bits = 8; bits <= 32; bits *= 2) {
            CarelessMist x = Scenes.of(items);
            x.sheet(3, bits, 1);
            x.write(3, 0, -1);
            Doc.is("any, of " + bits + " bits", x.fits(3, 0), 65535);
            x.write(3, 0, 8);
            Doc.is("8, of " + bits + " bits", x.fits(3, 0), 0x7C0);
        }
        Scenes.onlyAsks("24: fits", TermsEdges::crowded, o -> o.fits(0, 1));
        sheetAndOne(24, (o, s, w) -> o.fits(s, w), "BEYOND: no such WALKER.");
    }

    private static void kinds() {
        Doc.about(25, "KINDS that a THING could be of, as a set, so that its CELL behind each DAY further on is as a sheet "
                + "tells (number i: behind i + 1 DAYS; -1: any).");
        String items = "bill 13; walker 0 0; thing 9";
        Doc.is("no numbers", AheadTests.withSheet(items).kinds(2, 0), 127);
        Doc.is("any", AheadTests.withSheet(items, -1).kinds(2, 0), 127);
        Doc.is("those that stay", AheadTests.withSheet(items, 13).kinds(2, 0), 1 | 2 | 32 | 64);
        Doc.is("a COW", AheadTests.withSheet(items, 14).kinds(2, 0), 4);
        Doc.is("a CHILD", AheadTests.withSheet(items, 15).kinds(2, 0), 8);
        Doc.is("a LOVER, behind 15", AheadTests.withSheet(items, 1).kinds(2, 0), 16);
        Doc.is("number 1: behind 2 DAYS", AheadTests.withSheet(items, -1, 0).kinds(2, 0), 8);
        Doc.is("the first one false", AheadTests.withSheet(items, 14, 0).kinds(2, 0), 0);
        Doc.is("the last one false", AheadTests.withSheet(items, 15, 1).kinds(2, 0), 0);
        Doc.is("of the last THING", AheadTests.withSheet(items, 10, 10, 10, 11).kinds(2, 1), 4);
        for (int none : new int[] {-2, 16, 255, -32768, 32767}) {
            Doc.is("no CELL, " + none, AheadTests.withSheet(items, none).kinds(2, 0), 0);
        }
        int[] any = new int[40];
        java.util.Arrays.fill(any, -1);
        Doc.is("40 times any", AheadTests.withSheet(items, any).kinds(2, 0), 127);
        // 40 DAYS have 14 multiples of 3: a COW goes 14 CELLS, a CHILD 54, a LOVER 108.
        any[39] = 11;
        Doc.is("number 39: a COW behind 40 DAYS", AheadTests.withSheet(items, any).kinds(2, 0), 4);
        any[39] = 3;
        Doc.is("number 39: a CHILD behind 40 DAYS", AheadTests.withSheet(items, any).kinds(2, 0), 8);
        any[39] = 9;
        Doc.is("number 39: a LOVER behind 40 DAYS", AheadTests.withSheet(items, any).kinds(2, 0), 16);
        Scenes.onlyAsks("25: kinds", TermsEdges::crowded, o -> o.kinds(0, 1));
        sheetAndOne(25, (o, s, t) -> o.kinds(s, t), "BEYOND: no such THING.");
    }

    // ---- mornings

    private static void morning() {
        Doc.about(26, "n times (1 to 20) two draws: THE LIST tells for this DAY a TURN of the WALKER of the first one's "
                + "rest by 6 about the THING of the second one's rest by 8; then a DAY: GOT of all together then.");
        String items = "thing 1; thing 2; thing 3; thing 4; lover 5; inn 6; thing 7; bill 8; walker 1 0; walker 9 7;"
                + "walker 9 4; walker 3 5; walker 4 6; walker 5 3; turn 4 3 3";
        CarelessMist x = Scenes.of(items);
        CarelessMist y = Scenes.of(items);
        int z = 1;
        for (int n : new int[] {1, 2, 19, 20}) {
            int sum = 0;
            for (int i = 0; i < n; i++) {
                z = z * 1103515245 + 12345;
                int walker = (z >>> 8) % 6;
                z = z * 1103515245 + 12345;
                y.turn(y.count(0) % 6, walker, (z >>> 8) % 8);
                sum = y.go(1);
            }
            Doc.is(n + " mornings", x.morning(n), sum);
            Doc.is("z behind " + n, x.count(6), z);
            Doc.is("DAY behind " + n, x.count(0), y.count(0));
            for (int i = 0; i < 6; i++) {
                Doc.is("THE LIST behind " + n, x.listed(i), y.listed(i));
            }
            for (int w = 0; w < 6; w++) {
                Doc.is("CARES behind " + n, x.ofWalker(w, 3), y.ofWalker(w, 3));
                Doc.is("CELL behind " + n, x.ofWalker(w, 0), y.ofWalker(w, 0));
            }
        }
        // From z 1 the draws' rests by 6 and by 8 are 2 and 0, 0 and 3.
        CarelessMist two = Scenes.of("thing 1; thing 2; thing 3; thing 4; walker 1 0; walker 9 7; walker 9 7");
        Doc.is("two mornings", two.morning(2), 2);
        Doc.is("THE LIST for DAY 0", two.listed(0), 20);
        Doc.is("THE LIST for DAY 1", two.listed(1), 3);
        Doc.is("THE LIST for DAY 2 is not told yet", two.listed(2), 57);
        Doc.is("they tell for that DAY already", 10 * two.ofWalker(2, 3) + two.ofWalker(0, 3), 18);
        Doc.is("nobody", new CarelessMist().morning(20), 0);

        Doc.about(26, "BEYOND.");
        for (int n : new int[] {0, -1, 21, MIN, MAX}) {
            Doc.finds("" + n, SMALL, Scenes.BEYOND, o -> o.morning(n));
        }
    }

    private static void morningFarthest() {
        Doc.about(26, "STATE: DAY would be above 99999.");
        CarelessMist x = Scenes.of("");
        for (int i = 1; i <= 500; i++) {
            Doc.is("as far as calls go", x.morning(20), 0);
        }
        Doc.is("DAY", x.count(0), 10000);
        for (int n : new int[] {1, 2, 20}) {
            CarelessMist y = Scenes.of("thing 5; walker 5 0");
            if (Doc.makeDay(y, 99999 - n)) {
                Doc.is(n + " to 99999", y.morning(n), n);
                int z = y.count(6);
                Doc.is("one more", y.morning(1), -1000005);
                Doc.is("none is drawn", y.count(6), z);
                Doc.is("none goes by", 100 * y.count(3) + y.status(4), 100 * n + 1);
            }
            CarelessMist w = Scenes.of("thing 5; walker 5 0");
            if (Doc.makeDay(w, 100000 - n)) {
                Doc.is(n + " to 100000", w.morning(n), -1000005);
                Doc.is("none is drawn at all", w.count(6), 1);
                Doc.is("not one of them goes by", 100 * w.count(3) + w.status(4), 1);
                Doc.is("DAY stays", w.count(0), 100000 - n);
                for (int i = 0; i < 6; i++) {
                    Doc.is("THE LIST stays", w.listed(i), 57);
                }
            }
        }
    }

    private static void odds() {
        Doc.about(27, "The odds that from n (0 to 15) CELLS, each the rest by 16 of a draw, a WALKER would always SEE a "
                + "THING now: a fraction in lowest terms: above (what 0), below the line (1).");
        // A BILL SEEN by one who CARES, or a CHILD: from 1 and from 4 to 16 CELLS, all that can be.
        for (int n = 0; n < 16; n++) {
            fraction("bill 0; walker 9 7", n, 1, 16);
            fraction("child 0; walker 9 7", n, 1, 4);
            fraction("bill 15; walker 9 7", n, 1, 16);
            fraction("thing 0; walker 9 7", n, 5, 16);
            fraction("thing 15; walker 9 7", n, 5, 16);
            fraction("thing 3; walker 9 7", n, 1, 2);
            fraction("cow 2; walker 9 7", n, 9, 16);
            fraction("bill 8; walker 9 7 cares 1", n, 11, 16);
            fraction("cow 5; walker 9 7", n, 3, 4);
            fraction("inn 7; walker 9 7", n, 15, 16);
            fraction("steeple 0; walker 9 7", n, 1, 1);
        }
        CarelessMist x = Scenes.of("bill 0; lover 4; walker 0 7; walker 9 7 cares 2");
        Doc.is("of the last ones", 100 * x.odds(1, 1, 1, 0) + x.odds(1, 1, 1, 1), 116);
        x.change(1, 2, 3);
        Doc.is("as MET is now", 100 * x.odds(1, 1, 1, 0) + x.odds(1, 1, 1, 1), 516);
        CarelessMist inn = Scenes.of("inn 4; walker 9 7 cares 1");
        Doc.is("on an even DAY", 100 * inn.odds(0, 0, 1, 0) + inn.odds(0, 0, 1, 1), 316);
        inn.go(1);
        Doc.is("on an odd DAY", 100 * inn.odds(0, 0, 1, 0) + inn.odds(0, 0, 1, 1), 516);
        Doc.is("nothing is drawn", inn.count(6), 1);
        Scenes.onlyAsks("27: odds", TermsEdges::crowded, o -> o.odds(1, 1, 15, 0));

        Doc.about(27, "BEYOND.");
        int[][] wrong = {{-1, 0, 0, 0}, {2, 0, 0, 0}, {0, -1, 0, 0}, {0, 2, 0, 0}, {0, 0, -1, 0}, {0, 0, 16, 0},
            {0, 0, 0, -1}, {0, 0, 0, 2}, {MIN, 0, 0, 0}, {MAX, 0, 0, 0}, {0, MIN, 0, 0}, {0, MAX, 0, 0},
            {0, 0, MIN, 0}, {0, 0, MAX, 0}, {0, 0, 0, MIN}, {0, 0, 0, MAX}};
        for (int[] w : wrong) {
            Doc.finds(w[0] + ", " + w[1] + ", " + w[2] + ", " + w[3], SMALL, Scenes.BEYOND,
                    o -> o.odds(w[0], w[1], w[2], w[3]));
        }
        Doc.finds("nobody", NOBODY, Scenes.BEYOND, o -> o.odds(0, 0, 0, 0));
    }

    /** The odds from n CELLS, where those from one are so many in so many, in lowest terms. */
    private static void fraction(String items, int n, long above, long below) {
        long a = 1;
        long b = 1;
        for (int i = 0; i < n; i++) {
            a *= above;
            b *= below;
        }
        CarelessMist x = Scenes.of(items);
        Doc.is(items + ", " + n + " CELLS, above", x.odds(0, 0, n, 0), a);
        Doc.is(items + ", " + n + " CELLS, below", x.odds(0, 0, n, 1), b);
    }

    private static void seed() {
        Doc.about(28, "z becomes v: what it was.");
        CarelessMist x = new CarelessMist();
        Doc.is("what it was at first", x.seed(MIN), 1);
        Doc.is("the least", x.seed(MAX), MIN);
        Doc.is("the most", x.seed(0), MAX);
        Doc.is("0", x.seed(-1000001), 0);
        Doc.is("one that looks like a finding", x.seed(7), -1000001);
        Doc.is("that is none", x.status(-1), 0);
        Doc.is("it is", x.count(6), 7);
        x.morning(1);
        Doc.is("draws begin with it", x.count(6), 642666333);
    }
}
