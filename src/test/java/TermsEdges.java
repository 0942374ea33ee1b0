import java.util.function.ToLongFunction;

/** The terms of the document, sentence by sentence, at their boundaries. */
final class TermsEdges {
    private static final int MIN = Integer.MIN_VALUE;
    private static final int MAX = Integer.MAX_VALUE;
    private static final String[] KINDS = {"thing", "steeple", "cow", "child", "lover", "bill", "inn"};

    private TermsEdges() {
    }

    static void run() {
        findings();
        anyZ();
        orderOfFindings();
        refusedCallsChangeNothing();
        quotientsAndSets();
        cells();
        theList();
        things();
        clear();
        dim();
        moves();
        touches();
        walkers();
        sees();
        dayTurns();
        dayWays();
        dayArrivals();
        dayThings();
        lastDays();
        draws();
        spotsAndSheets();
    }

    // ---- findings

    private static void findings() {
        Doc.about(Doc.TERMS, "LOW is -1000001; LOW BEYOND, LOW - 1 FULL, LOW - 2 KIND, LOW - 3 NONE, LOW - 4 STATE, "
                + "LOW - 5 MISSING, LOW - 6 SIZE (in longs, too)");
        CarelessMist x = crowded();
        Doc.is("BEYOND", x.listed(6), -1000001);
        Doc.is("FULL", x.thing(0, 0), -1000002);
        Doc.is("KIND", x.as(0, 1), -1000003);
        Doc.is("NONE", new CarelessMist().undo(), -1000004);
        Doc.is("MISSING", x.judge(3), -1000006);
        Doc.is("SIZE", x.sheet(0, 8, -1), -1000007);
        Doc.is("BEYOND in a long", x.odds(6, 0, 0, 0), -1000001L);
        if (Doc.makeDay(x, 99999)) {
            Doc.is("STATE", x.go(1), -1000005);
        }
    }

    private static void anyZ() {
        Doc.about(Doc.TERMS, "What seed() and count(6) tell, z, may be any int: that is no finding.");
        CarelessMist x = new CarelessMist();
        int was = 1;
        for (int v : new int[] {-1000000, -1000001, -1000002, -1000003, -1000004, -1000005, -1000006, -1000007, MIN,
            MAX, 0, -1}) {
            Doc.is("seed(" + v + ")", x.seed(v), was);
            Doc.is("count(6)", x.count(6), v);
            was = v;
        }
        for (int which = -1; which < 7; which++) {
            Doc.is("status(" + which + ")", x.status(which), 0);
        }
    }

    private static void orderOfFindings() {
        Doc.about(Doc.TERMS, "Each act tells its findings in the order in which they are asked (that of its words)");
        Doc.finds("thing: BEYOND, FULL", TermsEdges::crowded, Scenes.BEYOND, o -> o.thing(7, 0));
        Doc.finds("walker: BEYOND, FULL", TermsEdges::crowded, Scenes.BEYOND, o -> o.walker(0, 8));
        Doc.finds("feed: BEYOND, FULL", TermsEdges::crowded, Scenes.BEYOND, o -> o.feed(0, 5));
        Doc.finds("arrives: BEYOND, NONE", TermsEdges::crowded, Scenes.BEYOND, o -> o.arrives(0, 10000));
        Doc.finds("paceFor: BEYOND, NONE", TermsEdges::crowded, Scenes.BEYOND, o -> o.paceFor(6, 0));
        Doc.finds("giveUp: BEYOND, NONE", TermsEdges::crowded, Scenes.BEYOND, o -> o.giveUp(6, 0));
        Doc.finds("as: BEYOND, MISSING", TermsEdges::crowded, Scenes.BEYOND, o -> o.as(8, 7));
        Doc.finds("as: BEYOND, KIND", TermsEdges::crowded, Scenes.BEYOND, o -> o.as(0, -1));
        Doc.finds("as: MISSING, KIND", TermsEdges::crowded, Scenes.MISSING, o -> o.as(8, 6));
        Doc.finds("fits: BEYOND, BEYOND", TermsEdges::crowded, Scenes.BEYOND, o -> o.fits(4, 6));
        Doc.finds("fits: MISSING, BEYOND", TermsEdges::crowded, Scenes.MISSING, o -> o.fits(3, 6));
        Doc.finds("kinds: MISSING, BEYOND", TermsEdges::crowded, Scenes.MISSING, o -> o.kinds(3, 8));
        Doc.finds("sheet: BEYOND, SIZE", TermsEdges::crowded, Scenes.BEYOND, o -> o.sheet(4, 8, -1));
        Doc.finds("sheet: BEYOND for its bits, SIZE", TermsEdges::crowded, Scenes.BEYOND, o -> o.sheet(0, 24, -1));
        Doc.finds("write: MISSING, BEYOND", TermsEdges::crowded, Scenes.MISSING, o -> o.write(3, 40, 0));
        Doc.finds("copy: BEYOND, MISSING", TermsEdges::crowded, Scenes.BEYOND, o -> o.copy(3, 0, 4, 0, 1));
        Doc.finds("copy: MISSING, KIND", TermsEdges::crowded, Scenes.MISSING, o -> o.copy(0, 0, 3, 0, 1));
        Doc.finds("copy: MISSING, BEYOND", TermsEdges::crowded, Scenes.MISSING, o -> o.copy(3, -1, 0, 0, 1));
        Doc.finds("copy: KIND, BEYOND", TermsEdges::crowded, Scenes.KIND, o -> o.copy(0, 0, 2, 0, -1));
        CarelessMist x = new CarelessMist();
        if (Doc.makeDay(x, 99999)) {
            Doc.is("go: BEYOND, STATE", x.go(61), Scenes.BEYOND);
            Doc.is("morning: BEYOND, STATE", x.morning(21), Scenes.BEYOND);
        }
    }

    private static void refusedCallsChangeNothing() {
        Doc.about(Doc.TERMS, "one that answers a finding changes nothing but status().");
        refused("turn", Scenes.BEYOND, o -> o.turn(0, 6, 1));
        refused("listed", Scenes.BEYOND, o -> o.listed(-1));
        refused("thing", Scenes.BEYOND, o -> o.thing(0, 16));
        refused("thing", Scenes.FULL, o -> o.thing(1, 1));
        refused("walker", Scenes.BEYOND, o -> o.walker(-1, 0));
        refused("walker", Scenes.FULL, o -> o.walker(1, 1));
        refused("of", Scenes.BEYOND, o -> o.of(0, 6));
        refused("change", Scenes.BEYOND, o -> o.change(0, 1, 16));
        refused("ofWalker", Scenes.BEYOND, o -> o.ofWalker(6, 0));
        refused("lead", Scenes.BEYOND, o -> o.lead(0, 2, 6));
        refused("sees", Scenes.BEYOND, o -> o.sees(6));
        refused("seenBy", Scenes.BEYOND, o -> o.seenBy(8));
        refused("go", Scenes.BEYOND, o -> o.go(61));
        refused("now", Scenes.BEYOND, o -> o.now(8));
        refused("ahead", Scenes.BEYOND, o -> o.ahead(0, 1, 101));
        refused("later", Scenes.BEYOND, o -> o.later(0, 0, 101));
        refused("arrives", Scenes.BEYOND, o -> o.arrives(0, -1));
        refused("arrives", Scenes.NONE, o -> o.arrives(0, 9999));
        refused("spies", Scenes.BEYOND, o -> o.spies(0, 8));
        refused("spies", Scenes.NONE, o -> o.spies(5, 7));
        refused("meet", Scenes.BEYOND, o -> o.meet(1, 1));
        refused("meet", Scenes.NONE, o -> o.meet(4, 5));
        refused("startFor", Scenes.BEYOND, o -> o.startFor(0, 41));
        refused("aimFor", Scenes.BEYOND, o -> o.aimFor(0, 41));
        refused("kindFor", Scenes.BEYOND, o -> o.kindFor(0, 41));
        refused("paceFor", Scenes.BEYOND, o -> o.paceFor(0, 41));
        refused("paceFor", Scenes.NONE, o -> o.paceFor(0, 0));
        refused("giveUp", Scenes.BEYOND, o -> o.giveUp(0, 21));
        refused("giveUp", Scenes.NONE, o -> o.giveUp(0, 0));
        refused("fits", Scenes.BEYOND, o -> o.fits(0, 6));
        refused("fits", Scenes.MISSING, o -> o.fits(3, 0));
        refused("kinds", Scenes.BEYOND, o -> o.kinds(0, 8));
        refused("kinds", Scenes.MISSING, o -> o.kinds(3, 0));
        refused("morning", Scenes.BEYOND, o -> o.morning(21));
        refused("odds", Scenes.BEYOND, o -> o.odds(0, 0, 16, 0));
        refused("feed", Scenes.BEYOND, o -> o.feed(0x3b3b3b3b, 0));
        refused("feed", Scenes.FULL, o -> o.feed(0x3b3b3b3b, 2));
        refused("hold", Scenes.BEYOND, o -> o.hold(0, 8));
        refused("as", Scenes.BEYOND, o -> o.as(10, 0));
        refused("as", Scenes.MISSING, o -> o.as(8, 0));
        refused("as", Scenes.KIND, o -> o.as(0, 6));
        refused("sheet", Scenes.BEYOND, o -> o.sheet(0, 8, 41));
        refused("sheet", Scenes.BEYOND, o -> o.sheet(0, 0, 41));
        refused("sheet", Scenes.SIZE, o -> o.sheet(0, 8, -1));
        refused("sheet", Scenes.SIZE, o -> o.sheet(0, 0, -1));
        refused("write", Scenes.BEYOND, o -> o.write(0, 5, 9));
        refused("write", Scenes.MISSING, o -> o.write(3, 0, 9));
        refused("copy", Scenes.BEYOND, o -> o.copy(0, 0, 1, 0, 4));
        refused("copy", Scenes.MISSING, o -> o.copy(0, 0, 3, 0, 1));
        refused("copy", Scenes.KIND, o -> o.copy(0, 0, 2, 0, 1));
        refused("load", Scenes.BEYOND, o -> o.load(4));
        refused("load", Scenes.MISSING, o -> o.load(3));
        refused("judge", Scenes.BEYOND, o -> o.judge(4));
        refused("judge", Scenes.MISSING, o -> o.judge(3));
        refused("count", Scenes.BEYOND, o -> o.count(8));
        refused("status", Scenes.BEYOND, o -> o.status(7));
        Doc.finds("undo", () -> {
            CarelessMist x = crowded();
            x.tear();
            return x;
        }, Scenes.NONE, o -> o.undo());
        for (int n = 1; n < 61; n += 59) {
            CarelessMist x = crowded();
            if (Doc.makeDay(x, 100000 - n)) {
                int cell = x.of(3, 1);
                Doc.is("go(" + n + ")", x.go(n), -1000005);
                Doc.is("go leaves DAY", x.count(0), 100000 - n);
                Doc.is("go leaves CELLS", x.of(3, 1), cell);
                Doc.is("go counts STATE", x.status(4), 1);
            }
        }
        CarelessMist x = crowded();
        if (Doc.makeDay(x, 99980)) {
            int z = x.count(6);
            Doc.is("morning(20)", x.morning(20), -1000005);
            Doc.is("morning leaves z", x.count(6), z);
            Doc.is("morning leaves THE LIST", x.listed(2), 23);
            Doc.is("morning counts STATE", x.status(-1) * 10 + x.status(4), 11);
        }
    }

    private static void refused(String what, int finding, ToLongFunction<CarelessMist> call) {
        Doc.finds(what, TermsEdges::crowded, finding, call);
    }

    /**
     * 8 THINGS, 6 WALKERS, 119 bytes of a TEXT, an image and some days behind it; sheet 0 is 1 to 5 of 8 bits, 1 is
     * three zeros of 8 bits, 2 one of 16 bits. SPOT 0 holds the first THING, a plain one; 8 holds nothing. WALKER 5
     * never SEES THING 7; it and 4 never meet.
     */
    static CarelessMist crowded() {
        CarelessMist x = Scenes.of("thing 0; steeple 2; cow 4; child 6; lover 8; bill 9; inn 12; thing 14;"
                + "walker 1 0 pace 3; walker 5 3 cares 8; walker 9 4; walker 2 6; turn 2 2 3; turn 4 1 3");
        x.hold(0, 0);
        x.hold(9, 4);
        x.image();
        x.go(3);
        x.walker(0, 0);
        x.walker(9, 5);
        x.hold(3, 7);
        x.seed(-77);
        x.sheet(0, 8, 5);
        x.sheet(1, 8, 3);
        x.sheet(2, 16, 1);
        for (int i = 0; i < 5; i++) {
            x.write(0, i, i + 1);
        }
        for (int i = 0; i < 29; i++) {
            x.feed(0x20202020, 4);
        }
        x.feed(0x202020, 3);
        return x;
    }

    private static void quotientsAndSets() {
        Doc.about(Doc.TERMS, "Quotients are cut.");
        Doc.is("half of 15", Scenes.of("inn 3").of(0, 3), 7);
        Doc.is("half of 6", Scenes.of("child 3").of(0, 3), 3);

        Doc.about(Doc.TERMS, "Sets are told as bits");
        CarelessMist x = Scenes.of("bill 0; bill 0; bill 0; bill 0; bill 0; bill 0; bill 0; bill 15; walker 15 7");
        Doc.is("the last THING alone", x.sees(0), 128);
        Doc.is("the last CELL alone", x.now(5), 1 << 15);
        Doc.is("CELLS 0 and 15", x.now(6), 1 << 15 | 1);
        Doc.is("none", Scenes.of("bill 0; walker 9 0").sees(0), 0);
        Doc.is("the last WALKER alone",
                Scenes.of("bill 0; walker 1 7; walker 1 7; walker 1 7; walker 1 7; walker 1 7; walker 0 7").seenBy(0), 32);

        Doc.about(Doc.TERMS, "of several that would do the least number counts, where nothing else is told.");
        Doc.is("any CELL would do", Scenes.of("thing 8; walker 5 7").startFor(0, 3), 0);
        Doc.is("CELLS 6 to 10 would do", Scenes.of("thing 8; walker 0 0").startFor(0, 1), 6);
        Doc.is("any number would do", Scenes.of("thing 15; walker 0 7").aimFor(0, 3), 0);
        Doc.is("2 and 3 would do", Scenes.of("bill 9; bill 9; thing 1; thing 1; bill 9; walker 0 0").aimFor(0, 3), 2);
        Doc.is("any KIND would do", Scenes.of("lover 8; walker 0 7").kindFor(0, 3), 0);
        // From CELL 6 it is a way of 6 to 0: only a STEEPLE and an INN are seen so far off, or a COW.
        Doc.is("STEEPLE, COW and INN would do", Scenes.of("lover 0; walker 6 0 pace 5").kindFor(0, 2), 1);
        Doc.is("any PACE would do", Scenes.of("thing 8; walker 8 0 pace 5").paceFor(0, 1), 1);
        Doc.is("any set of one would do", Scenes.of("steeple 0; steeple 10; thing 2; walker 10 0 pace 1 cares 6;"
                + "walker 10 2 pace 2 cares 5; walker 3 2 pace 1 cares 4; walker 3 0 pace 5 cares 7;"
                + "turn 0 0 0; turn 1 1 0; turn 2 0 0; turn 3 2 1; turn 4 3 2; turn 5 1 1").giveUp(3, 8), 1);
    }

    // ---- cells, the list

    private static void cells() {
        Doc.about(Doc.TERMS, "CELLS 0 to 15 in a row.");
        CarelessMist x = new CarelessMist();
        Doc.is("a THING AT 0", x.thing(0, 0), 0);
        Doc.is("a THING AT 15", x.thing(0, 15), 1);
        Doc.is("a WALKER AT 0", x.walker(0, 0), 0);
        Doc.is("a WALKER AT 15", x.walker(15, 0), 1);
        Doc.is("none below", x.thing(0, -1), Scenes.BEYOND);
        Doc.is("none above", x.thing(0, 16), Scenes.BEYOND);
        Doc.is("0 is far from 15", x.sees(0), 1);
        Doc.is("15 is far from 0", x.sees(1), 2);
        CarelessMist down = Scenes.of("steeple 0; walker 15 0 pace 5");
        down.go(1);
        Doc.is("from 15 to 0 it is 15 CELLS down", down.ofWalker(0, 0), 10);
        CarelessMist up = Scenes.of("steeple 15; walker 0 0 pace 5");
        up.go(1);
        Doc.is("from 0 to 15 it is 15 CELLS up", up.ofWalker(0, 0), 5);
    }

    private static void theList() {
        Doc.about(Doc.TERMS, "six TURNS, one for DAY modulo 6");
        for (int place = 0; place < 6; place++) {
            CarelessMist x = Scenes.of("thing 0; walker 9 7; turn " + place + " 0 0");
            int cares = 0;
            for (int day = 0; day < 14; day++) {
                cares ^= day % 6 == place ? 1 : 0;
                x.go(1);
                Doc.is("place " + place + ", CARES behind DAY " + day, x.ofWalker(0, 3), cares);
            }
        }
        Doc.is("no seventh", new CarelessMist().listed(6), Scenes.BEYOND);

        Doc.about(Doc.TERMS, "of a WALKER (0 to 5) about a THING (0 to 7), told as one number, 10 * WALKER and THING "
                + "together (0 at first)");
        for (int place = 0; place < 6; place++) {
            CarelessMist x = new CarelessMist();
            Doc.is("place " + place + " at first", x.listed(place), 0);
            Doc.is("WALKER 0, THING 7", x.turn(place, 0, 7), 0);
            Doc.is("WALKER 5, THING 0", x.turn(place, 5, 0), 7);
            Doc.is("WALKER 5, THING 7", x.turn(place, 5, 7), 50);
            Doc.is("it is told", x.listed(place), 57);
            Doc.is("WALKER 6", x.turn(place, 6, 0), Scenes.BEYOND);
            Doc.is("THING 8", x.turn(place, 0, 8), Scenes.BEYOND);
        }
        CarelessMist first = new CarelessMist();
        first.thing(0, 0);
        first.walker(9, 7);
        first.go(1);
        Doc.is("at first it is WALKER 0 about THING 0", first.ofWalker(0, 3), 1);
        first.go(1);
        Doc.is("on the next DAY, too", first.ofWalker(0, 3), 0);

        Doc.about(Doc.TERMS, "if there are both, the one CARES for the other from then on, if it didn't, and doesn't "
                + "any more, if it did.");
        Doc.is("no such THING", Scenes.of("thing 0; walker 9 7; turn 0 0 1").later(0, 3, 1), 0);
        Doc.is("no THING at all", Scenes.of("walker 9 7; turn 0 0 0").later(0, 3, 1), 0);
        Doc.is("no such THING, but CARES", Scenes.of("thing 0; walker 9 7 cares 2; turn 0 0 1").later(0, 3, 1), 2);
        Doc.is("no such WALKER", Scenes.of("thing 0; walker 9 7; turn 0 1 0").later(0, 3, 1), 0);
        Doc.is("no WALKER at all", Scenes.of("thing 0; turn 0 0 0").go(1), 0);
        Doc.is("it didn't", Scenes.of("thing 0; walker 9 7 cares 254; turn 0 0 0").later(0, 3, 1), 255);
        Doc.is("it did", Scenes.of("thing 0; walker 9 7 cares 255; turn 0 0 0").later(0, 3, 1), 254);
        String eight = "thing 0; thing 0; thing 0; thing 0; thing 0; thing 0; thing 0; bill 0; walker 9 7; walker 9 7;"
                + "walker 9 7; walker 9 7; walker 9 7;";
        Doc.is("the last of both", Scenes.of(eight + "walker 9 7 cares 1; turn 0 5 7").later(5, 3, 1), 129);
        Doc.is("all others as they did", Scenes.of(eight + "walker 9 7; turn 0 5 7").later(4, 3, 1), 0);
        CarelessMist later = Scenes.of("thing 0; walker 9 7; turn 0 0 1; turn 1 0 1");
        later.go(1);
        later.thing(0, 0);
        later.go(1);
        Doc.is("both have come", later.ofWalker(0, 3), 2);
    }

    // ---- things

    private static void things() {
        Doc.about(Doc.TERMS, "THINGS 0, 1, .. (at most 8)");
        CarelessMist x = new CarelessMist();
        for (int t = 0; t < 8; t++) {
            Doc.is("of the THING to come", x.of(t, 0), Scenes.BEYOND);
            Doc.is("a new THING", x.thing(t % 7, t), t);
        }
        Doc.is("a 9th", x.thing(0, 0), Scenes.FULL);
        Doc.is("8 are counted", x.count(1), 8);
        Doc.is("of the 9th", x.of(8, 0), Scenes.BEYOND);

        Doc.about(Doc.TERMS, "of KINDS: 0 THING; 1 STEEPLE, 2 COW, 5 BILL under THING; 3 CHILD under COW; 4 LOVER under "
                + "CHILD; 6 INN under STEEPLE");
        int[] above = {0, 0, 0, 2, 3, 0, 1};
        for (int kind = 0; kind < 7; kind++) {
            CarelessMist y = new CarelessMist();
            Doc.is("KIND " + kind, y.thing(kind, 0), 0);
            y.hold(0, 0);
            Doc.is("as itself", y.as(0, kind), 0);
            Doc.is("as what it is under", y.as(0, above[kind]), 0);
            Doc.is("as what that is under", y.as(0, above[above[kind]]), 0);
            Doc.is("as a THING", y.as(0, 0), 0);
            for (int other = 0; other < 7; other++) {
                boolean under = other == kind || other == above[kind] || other == above[above[kind]] || other == 0;
                Doc.is(KINDS[kind] + " as " + KINDS[other], y.as(0, other), under ? 0 : Scenes.KIND);
            }
        }
        Doc.is("KIND 7", new CarelessMist().thing(7, 0), Scenes.BEYOND);
        Doc.is("KIND -1", new CarelessMist().thing(-1, 0), Scenes.BEYOND);

        Doc.about(Doc.TERMS, "each AT a CELL, MET (how often somebody got there; 0 to 9999; 0 at first)");
        CarelessMist y = Scenes.of("thing 5; thing 5; walker 5 0; walker 5 0; walker 4 1; walker 9 7");
        Doc.is("at first", y.of(0, 2), 0);
        y.go(1);
        Doc.is("two got there", y.of(0, 2), 2);
        Doc.is("one got to the other", y.of(1, 2), 1);
        Doc.is("9999", y.change(0, 2, 9999), 2);
        Doc.is("0", y.change(0, 2, 0), 9999);
        Doc.is("10000", y.change(0, 2, 10000), Scenes.BEYOND);
        Doc.is("-1", y.change(0, 2, -1), Scenes.BEYOND);
        CarelessMist by = Scenes.of("thing 5; walker 4 7; walker 1 7; thing 6");
        by.lead(0, 1, 1);
        by.lead(1, 1, 1);
        by.go(3);
        Doc.is("nobody that aims at another gets there", by.of(0, 2), 0);
    }

    /** How far off a THING of a kind is seen, tried CELL by CELL; -1 if not even where it is. */
    private static int sight(int kind, boolean cares, int day, int met) {
        CarelessMist x = Scenes.of("walker 0 7 cares " + (cares ? 1 : 0));
        for (int d = 0; d < day; d++) {
            x.go(1);
        }
        x.thing(kind, 0);
        x.change(0, 2, met);
        int farthest = -1;
        for (int cell = 0; cell < 16; cell++) {
            x.lead(0, 0, cell);
            farthest += x.sees(0) == 1 && farthest == cell - 1 ? 1 : 0;
        }
        return farthest;
    }

    private static void clearIs(int kind, int due) {
        for (int day = 0; day < 7; day++) {
            Doc.is("DAY " + day, sight(kind, false, day, 0), due);
        }
        for (int met : new int[] {2, 3, 9999}) {
            Doc.is("MET " + met, sight(kind, false, 0, met), due);
        }
        Doc.is("as told", Scenes.of(KINDS[kind] + " 15").of(0, 3), due);
    }

    private static void clear() {
        Doc.about(Doc.TERMS, "CLEAR (how far off it is seen by one who doesn't CARE for it): THING: 4.");
        clearIs(0, 4);
        Doc.about(Doc.TERMS, "STEEPLE: 15.");
        clearIs(1, 15);
        Doc.about(Doc.TERMS, "INN: half (cut) of a STEEPLE.");
        clearIs(6, 7);
        Doc.about(Doc.TERMS, "COW: as a THING, and 2.");
        clearIs(2, 6);
        Doc.about(Doc.TERMS, "CHILD: half (cut) of a COW.");
        clearIs(3, 3);
        Doc.about(Doc.TERMS, "LOVER: as a CHILD, less 1.");
        clearIs(4, 2);
        Doc.about(Doc.TERMS, "BILL: 0.");
        clearIs(5, 0);
    }

    private static void dimIs(int kind, int onEven, int onOdd) {
        for (int day = 0; day < 7; day++) {
            Doc.is("DAY " + day, sight(kind, true, day, 0), day % 2 == 0 ? onEven : onOdd);
            Doc.is("DAY " + day + ", MET 2", sight(kind, true, day, 2), day % 2 == 0 ? onEven : onOdd);
        }
        CarelessMist x = Scenes.of(KINDS[kind] + " 15");
        Doc.is("as told", x.of(0, 4), onEven);
        x.go(1);
        Doc.is("as told on DAY 1", x.of(0, 4), onOdd);
    }

    private static void dim() {
        Doc.about(Doc.TERMS, "DIM (how far off it is seen by one who CARES): THING: 0.");
        dimIs(0, 0, 0);
        Doc.about(Doc.TERMS, "STEEPLE: as a THING, and 1.");
        dimIs(1, 1, 1);
        Doc.about(Doc.TERMS, "INN: as a STEEPLE, and 1, if DAY is odd.");
        dimIs(6, 1, 2);
        Doc.about(Doc.TERMS, "COW: as a THING, and 1.");
        dimIs(2, 1, 1);
        Doc.about(Doc.TERMS, "CHILD: 0.");
        dimIs(3, 0, 0);
        Doc.about(Doc.TERMS, "LOVER: 2, if MET is 3 or more, else as a CHILD.");
        dimIs(4, 0, 0);
        for (int met = 0; met < 6; met++) {
            Doc.is("MET " + met, sight(4, true, met, met), met >= 3 ? 2 : 0);
        }
        Doc.is("MET 9999", sight(4, true, 0, 9999), 2);
        for (int kind = 0; kind < 7; kind++) {
            Doc.is("MET of " + KINDS[kind] + " tells nothing else", sight(kind, true, 0, 3),
                    kind == 4 ? 2 : sight(kind, true, 0, 0));
        }
        Doc.about(Doc.TERMS, "BILL: 5.");
        dimIs(5, 5, 5);
    }

    /** How many CELLS on a THING goes on each of the DAYS 0 to 6, behind 15 too. */
    private static void movesAre(int kind, int... due) {
        for (int cell : new int[] {0, 11, 12, 13, 14, 15}) {
            CarelessMist x = Scenes.of(KINDS[kind] + " " + cell);
            int at = cell;
            for (int day = 0; day < 7; day++) {
                Doc.is("told on DAY " + day, x.of(0, 5), due[day]);
                x.go(1);
                at = (at + due[day]) % 16;
                Doc.is("from " + cell + ", behind DAY " + day, x.of(0, 1), at);
            }
        }
    }

    private static void moves() {
        Doc.about(Doc.TERMS, "MOVES (CELLS on in a DAY, behind 15 comes 0): THING: 0.");
        movesAre(0, 0, 0, 0, 0, 0, 0, 0);
        CarelessMist x = Scenes.of("cow 15; lover 12; lover 15");
        x.go(1);
        Doc.is("a COW from 15", x.of(0, 1), 0);
        Doc.is("a LOVER from 12", x.of(1, 1), 0);
        Doc.is("a LOVER from 15", x.of(2, 1), 3);
        Doc.about(Doc.TERMS, "STEEPLE, INN, BILL: as a THING.");
        movesAre(1, 0, 0, 0, 0, 0, 0, 0);
        movesAre(6, 0, 0, 0, 0, 0, 0, 0);
        movesAre(5, 0, 0, 0, 0, 0, 0, 0);
        Doc.about(Doc.TERMS, "COW: 1, if DAY is a multiple of 3, else 0.");
        movesAre(2, 1, 0, 0, 1, 0, 0, 1);
        Doc.about(Doc.TERMS, "CHILD: as a COW, and 1.");
        movesAre(3, 2, 1, 1, 2, 1, 1, 2);
        Doc.about(Doc.TERMS, "LOVER: twice a CHILD.");
        movesAre(4, 4, 2, 2, 4, 2, 2, 4);
    }

    /** Whether one that got to THING 1 CARES for it behind that, if it didn't and if it did. */
    private static void touchIs(int kind, int ifNot, int ifSo) {
        for (int met : new int[] {0, 1, 2, 3, 9999}) {
            CarelessMist x = Scenes.of("bill 0; " + KINDS[kind] + " 5; bill 0; walker 5 1; walker 5 1 cares 2;"
                    + "walker 5 1 cares 253; walker 5 1 cares 255; walker 5 7 cares 6; walker 5 7 cares 5");
            x.change(1, 2, met);
            x.go(1);
            String behind = "MET " + met + ", ";
            Doc.is(behind + "it didn't", x.ofWalker(0, 3), 2 * ifNot);
            Doc.is(behind + "it did", x.ofWalker(1, 3), 2 * ifSo);
            Doc.is(behind + "it didn't, but for all others", x.ofWalker(2, 3), 253 + 2 * ifNot);
            Doc.is(behind + "it did, and for all others", x.ofWalker(3, 3), 253 + 2 * ifSo);
            Doc.is(behind + "it is there but didn't get there, did", x.ofWalker(4, 3), 6);
            Doc.is(behind + "it is there but didn't get there, didn't", x.ofWalker(5, 3), 5);
        }
    }

    private static void touches() {
        Doc.about(Doc.TERMS, "TOUCHES (whether one who got there CARES for it behind that): THING: as it did.");
        touchIs(0, 0, 1);
        Doc.about(Doc.TERMS, "STEEPLE: no.");
        touchIs(1, 0, 0);
        Doc.about(Doc.TERMS, "INN: as a STEEPLE.");
        touchIs(6, 0, 0);
        Doc.about(Doc.TERMS, "COW: as a THING.");
        touchIs(2, 0, 1);
        Doc.about(Doc.TERMS, "CHILD: yes.");
        touchIs(3, 1, 1);
        Doc.about(Doc.TERMS, "LOVER: if it didn't.");
        touchIs(4, 1, 0);
        Doc.about(Doc.TERMS, "BILL: no.");
        touchIs(5, 0, 0);
    }

    // ---- walkers

    private static void walkers() {
        Doc.about(Doc.TERMS, "WALKERS 0, 1, .. (at most 6)");
        CarelessMist x = new CarelessMist();
        for (int w = 0; w < 6; w++) {
            Doc.is("of the WALKER to come", x.ofWalker(w, 0), Scenes.BEYOND);
            Doc.is("a new WALKER", x.walker(w, w), w);
        }
        Doc.is("a 7th", x.walker(0, 0), Scenes.FULL);
        Doc.is("6 are counted", x.count(2), 6);
        Doc.is("of the 7th", x.ofWalker(6, 0), Scenes.BEYOND);

        Doc.about(Doc.TERMS, "AIMS at a THING (0 to 7; of one that there isn't: nowhere)");
        CarelessMist aims = Scenes.of("thing 5; thing 5; thing 5; thing 5; thing 5; thing 5; thing 5;"
                + "walker 4 7; walker 9 7; walker 4 6");
        aims.go(1);
        Doc.is("nowhere: it stays", aims.ofWalker(0, 0), 4);
        Doc.is("nowhere: it doesn't stray", aims.ofWalker(1, 0) * 10 + aims.ofWalker(1, 5), 90);
        Doc.is("nowhere: it doesn't get there", aims.ofWalker(0, 4), 0);
        Doc.is("at the last one", aims.ofWalker(2, 4), 1);
        aims.thing(0, 5);
        aims.go(1);
        Doc.is("at one that has come", aims.ofWalker(0, 0) * 10 + aims.ofWalker(0, 4), 51);
        Doc.is("at 7", aims.lead(2, 1, 7), 6);
        Doc.is("at 0", aims.lead(2, 1, 0), 7);
        Doc.is("at 8", aims.lead(2, 1, 8), Scenes.BEYOND);
        Doc.is("at -1", aims.lead(2, 1, -1), Scenes.BEYOND);

        field("with a PACE (1 to 5; 2 at first)", 2, 2, 1, 5);
        field("CARES for THINGS (a set, 0 to 255; none at first)", 3, 0, 0, 255);
        field("GOT (how often it got there; 0 to 9999; 0 at first)", 4, 0, 0, 9999);
        field("STRAYED (DAYS; 0 to 9999; 0 at first)", 5, 0, 0, 9999);
    }

    private static void field(String words, int what, int first, int least, int most) {
        Doc.about(Doc.TERMS, words);
        CarelessMist x = Scenes.of("walker 3 4");
        Doc.is("at first", x.ofWalker(0, what), first);
        Doc.is("the most", x.lead(0, what, most), first);
        Doc.is("the least", x.lead(0, what, least), most);
        Doc.is("above the most", x.lead(0, what, most + 1), Scenes.BEYOND);
        Doc.is("below the least", x.lead(0, what, least - 1), Scenes.BEYOND);
        Doc.is("it stays", x.ofWalker(0, what), least);
        CarelessMist told = new CarelessMist();
        Scenes.text(told, "walker 3 4");
        Doc.is("at first, by a TEXT", told.ofWalker(0, what), first);
    }

    private static void sees() {
        Doc.about(Doc.TERMS, "SEES (a WALKER, a THING): if it is no farther off than it is CLEAR, if the one doesn't CARE "
                + "for it, or DIM, if it does.");
        for (int up = -1; up < 2; up += 2) {
            Doc.is("as far as CLEAR", Scenes.of("cow 8; walker " + (8 + 6 * up) + " 7").sees(0), 1);
            Doc.is("farther than CLEAR", Scenes.of("cow 8; walker " + (8 + 7 * up) + " 7").sees(0), 0);
            Doc.is("as far as DIM", Scenes.of("cow 8; walker " + (8 + up) + " 7 cares 1").sees(0), 1);
            Doc.is("farther than DIM", Scenes.of("cow 8; walker " + (8 + 2 * up) + " 7 cares 1").sees(0), 0);
            Doc.is("a BILL beyond CLEAR", Scenes.of("bill 8; walker " + (8 + up) + " 7").sees(0), 0);
            Doc.is("a BILL as far as DIM", Scenes.of("bill 8; walker " + (8 + 5 * up) + " 7 cares 1").sees(0), 1);
            Doc.is("a BILL beyond DIM", Scenes.of("bill 8; walker " + (8 + 6 * up) + " 7 cares 1").sees(0), 0);
            Doc.is("CARES for another", Scenes.of("cow 8; walker " + (8 + 6 * up) + " 7 cares 254").sees(0), 1);
        }
    }

    // ---- days

    private static void dayTurns() {
        Doc.about(Doc.TERMS, "(1) the TURN of THE LIST for DAY modulo 6.");
        CarelessMist x = Scenes.of("thing 8; walker 6 0; turn 0 0 0");
        x.go(1);
        Doc.is("it CARES before it goes", x.ofWalker(0, 0) * 10 + x.ofWalker(0, 5), 71);
        CarelessMist y = Scenes.of("thing 8; walker 6 0 cares 1; turn 0 0 0");
        y.go(1);
        Doc.is("it doesn't any more before it goes", y.ofWalker(0, 4), 1);
        CarelessMist z = Scenes.of("steeple 8; walker 8 0; turn 0 0 0");
        z.go(1);
        Doc.is("what it TOUCHES comes behind", z.ofWalker(0, 3), 0);
    }

    /** Behind a DAY: the WALKER's CELL, and by 100 its GOT, by 1000 STRAYED. */
    private static int behindDay(String items, int walker) {
        CarelessMist x = Scenes.of(items);
        x.go(1);
        return x.ofWalker(walker, 0) + 100 * x.ofWalker(walker, 4) + 1000 * x.ofWalker(walker, 5);
    }

    private static void dayWays() {
        Doc.about(Doc.TERMS, "(2) WALKERS by numbers that AIM at a THING there is");
        Doc.is("no THING", behindDay("walker 5 0", 0), 5);
        Doc.is("one number too high", behindDay("thing 8; walker 5 1", 0), 5);
        Doc.is("0 first: 1 no longer is beside one that SEES", behindDay("thing 10; walker 7 0; walker 7 0 cares 1", 1),
                1008);
        Doc.is("0 first: it is beside 1 still", behindDay("thing 10; walker 7 0 cares 1; walker 7 0", 0), 9);
        Doc.is("0 comes to where 1 is", behindDay("thing 10; walker 6 0; walker 8 0 cares 1", 1), 110);
        Doc.is("1 doesn't come to where 0 was", behindDay("thing 10; walker 8 0 cares 1; walker 6 0", 0), 1009);

        Doc.about(Doc.TERMS, "one that SEES it, or is AT the same CELL as another WALKER that SEES it (as all are then)");
        Doc.is("it SEES it", behindDay("thing 10; walker 6 0", 0), 8);
        Doc.is("it doesn't", behindDay("thing 10; walker 5 0", 0), 1006);
        Doc.is("beside one", behindDay("thing 10; walker 7 0 cares 1; walker 7 7", 0), 9);
        Doc.is("a CELL off", behindDay("thing 10; walker 7 0 cares 1; walker 8 7", 0), 1008);
        Doc.is("a CELL off the other way", behindDay("thing 10; walker 7 0 cares 1; walker 6 7", 0), 1008);
        Doc.is("the other one doesn't SEE it", behindDay("thing 10; walker 7 0 cares 1; walker 7 7 cares 1", 0), 1008);
        Doc.is("the other one SEES another", behindDay("thing 10; steeple 12; walker 7 0 cares 1; walker 7 1 cares 1", 0),
                1008);
        Doc.is("the last one of six SEES it", behindDay("bill 10; walker 7 0; walker 7 7; walker 7 7; walker 7 7;"
                + "walker 7 7; walker 7 7 cares 1", 0), 9);
        Doc.is("the first one of six SEES it", behindDay("bill 10; walker 7 7 cares 1; walker 7 7; walker 7 7;"
                + "walker 7 7; walker 7 7; walker 7 0", 5), 9);
        Doc.is("as MET is then", behindDay("lover 5; walker 5 0; walker 5 0; walker 5 0; walker 3 0 cares 1", 3), 105);
        Doc.is("as MET is then, less", behindDay("lover 5; walker 5 0; walker 5 0; walker 3 0 cares 1; walker 9 7", 2),
                1004);
        Doc.is("the one that SEES it has gone on", behindDay("child 5; walker 4 0; walker 4 0 cares 1", 1), 1105);

        Doc.about(Doc.TERMS, "goes as many CELLS as its PACE towards it, no farther");
        for (int pace = 1; pace < 6; pace++) {
            Doc.is("up, PACE " + pace, behindDay("steeple 15; walker 3 0 pace " + pace, 0), 3 + pace);
            Doc.is("down, PACE " + pace, behindDay("steeple 0; walker 12 0 pace " + pace, 0), 12 - pace);
            Doc.is("up to it, PACE " + pace, behindDay("steeple 8; walker " + (8 - pace) + " 0 pace " + pace, 0), 108);
            Doc.is("down to it, PACE " + pace, behindDay("steeple 8; walker " + (8 + pace) + " 0 pace " + pace, 0), 108);
            Doc.is("no farther up, PACE " + pace, behindDay("steeple 8; walker 7 0 pace " + pace, 0), 108);
            Doc.is("no farther down, PACE " + pace, behindDay("steeple 8; walker 9 0 pace " + pace, 0), 108);
            Doc.is("AT it, PACE " + pace, behindDay("steeple 8; walker 8 0 pace " + pace, 0), 108);
            Doc.is("a CELL too far, PACE " + pace, behindDay("steeple 15; walker " + (14 - pace) + " 0 pace " + pace, 0),
                    14);
        }

        Doc.about(Doc.TERMS, "else it goes one CELL on (behind 15 comes 0), STRAYED is 1 more (9999 at most).");
        Doc.is("one on whatever its PACE", behindDay("bill 12; walker 3 0 pace 5", 0), 1004);
        Doc.is("from 14 to 15", behindDay("bill 5; walker 14 0", 0), 1015);
        Doc.is("from 15 to 0", behindDay("bill 5; walker 15 0", 0), 1000);
        Doc.is("on, though it is behind", behindDay("bill 5; walker 7 0", 0), 1008);
        CarelessMist x = Scenes.of("bill 5; walker 7 0; walker 7 0");
        x.lead(0, 5, 9998);
        x.lead(1, 5, 9999);
        x.go(1);
        Doc.is("from 9998", x.ofWalker(0, 5), 9999);
        Doc.is("from 9999", x.ofWalker(1, 5), 9999);
        Doc.is("it goes all the same", x.ofWalker(1, 0), 8);
    }

    private static void dayArrivals() {
        Doc.about(Doc.TERMS, "If it is AT the THING's CELL then: GOT of it and MET of the THING are 1 more (9999 at most, "
                + "both)");
        Doc.is("by sight", behindDay("thing 5; walker 4 0", 0), 105);
        Doc.is("by straying", behindDay("bill 5; walker 4 0", 0), 1105);
        Doc.is("by straying from 15 to 0", behindDay("bill 0; walker 15 0", 0), 1100);
        Doc.is("where it is", behindDay("thing 5; walker 5 0", 0), 105);
        Doc.is("a CELL off", behindDay("thing 5; walker 2 0", 0), 4);
        Doc.is("the THING it goes by", behindDay("thing 5; thing 7; walker 5 1", 0), 107);
        CarelessMist x = Scenes.of("thing 5; thing 5; walker 5 0; walker 5 0; walker 5 1");
        x.lead(0, 4, 9999);
        x.lead(1, 4, 9998);
        x.change(0, 2, 9998);
        x.change(1, 2, 9999);
        x.go(1);
        Doc.is("GOT from 9999", x.ofWalker(0, 4), 9999);
        Doc.is("GOT from 9998", x.ofWalker(1, 4), 9999);
        Doc.is("MET from 9998, by two", x.of(0, 2), 9999);
        Doc.is("MET from 9999", x.of(1, 2), 9999);
        Doc.is("GOT is 1 more all the same", x.ofWalker(2, 4), 1);
        CarelessMist y = Scenes.of("thing 5; walker 5 0");
        y.lead(0, 4, 9999);
        y.go(1);
        Doc.is("MET is 1 more all the same", y.of(0, 2), 1);

        Doc.about(Doc.TERMS, "it CARES for it or not as it TOUCHES (by MET as it is then).");
        CarelessMist lovers = Scenes.of("lover 5; walker 5 0; walker 5 0; walker 5 0; walker 5 0; walker 5 0 cares 1");
        lovers.go(1);
        for (int w = 0; w < 5; w++) {
            Doc.is("WALKER " + w + " of five", lovers.ofWalker(w, 3), w == 4 ? 0 : 1);
        }
        CarelessMist most = Scenes.of("child 5; walker 5 0");
        most.lead(0, 4, 9999);
        most.change(0, 2, 9999);
        most.go(1);
        Doc.is("CARES, though GOT and MET can't be more", most.ofWalker(0, 3), 1);
        Doc.is("who doesn't get there doesn't begin to", Scenes.of("child 9; walker 5 0 pace 1").later(0, 3, 1), 0);
    }

    private static void dayThings() {
        Doc.about(Doc.TERMS, "(3) THINGS by numbers go on as they MOVE.");
        CarelessMist x = Scenes.of("child 7; walker 5 0; walker 5 0 pace 1; walker 8 0 pace 1");
        x.go(1);
        Doc.is("behind all WALKERS: one got to where it was", x.ofWalker(0, 4), 1);
        Doc.is("one didn't", x.ofWalker(1, 4), 0);
        Doc.is("one got there down", x.ofWalker(2, 4), 1);
        Doc.is("they stay there", x.ofWalker(0, 0) * 100 + x.ofWalker(2, 0), 707);
        Doc.is("it went on by DAY 0", x.of(0, 1), 9);
        CarelessMist y = Scenes.of("cow 15; child 14; lover 12; thing 15; steeple 15; inn 15; bill 15; lover 15");
        y.go(1);
        int[] due = {0, 0, 0, 15, 15, 15, 15, 3};
        for (int t = 0; t < 8; t++) {
            Doc.is("THING " + t + ", behind 15", y.of(t, 1), due[t]);
        }
    }

    private static void lastDays() {
        Doc.about(Doc.TERMS, "DAY is one more (99999 at most).");
        CarelessMist x = new CarelessMist();
        for (int day = 0; day < 200; day++) {
            Doc.is("DAY " + day, x.count(0), day);
            x.go(1);
        }
        CarelessMist y = Scenes.of("child 0; walker 9 7; turn 2 0 0; turn 3 0 0");
        if (Doc.makeDay(y, 99998)) {
            // 99998 is 2 modulo 6 and no multiple of 3; 99999 is both 3 modulo 6 and a multiple of 3.
            Doc.is("behind a DAY", y.ahead(0, 1, 1), 1);
            Doc.is("behind 2", y.ahead(0, 1, 2), 3);
            Doc.is("behind 3: DAY is 99999 still", y.ahead(0, 1, 3), 5);
            Doc.is("behind 6", y.ahead(0, 1, 6), 11);
            Doc.is("CARES behind a DAY", y.later(0, 3, 1), 1);
            Doc.is("behind 2", y.later(0, 3, 2), 0);
            Doc.is("behind 3", y.later(0, 3, 3), 1);
            Doc.is("the last DAY", y.go(1), 0);
            Doc.is("it is 99999", y.count(0), 99999);
            Doc.is("none behind it", y.go(1), -1000005);
        }
    }

    private static void draws() {
        Doc.about(Doc.TERMS, "DRAWS: z is told (1 at first); each makes it z * 1103515245 + 12345 (an int), and gives "
                + "z >>> 8.");
        // A row a z: z behind two draws, the TURN that they tell.
        int[][] due = {{1, -1770082073, 20}, {0, -740551042, 6}, {-1, 288979989, 14},
            {MAX, -1858503659, 54}, {MIN, 1406932606, 26}, {7, 642666333, 17},
            {-77, 1223927017, 14}, {123456789, -1020537317, 6}, {-1000001, 1889325013, 27}};
        Doc.is("at first", new CarelessMist().count(6), 1);
        for (int[] d : due) {
            CarelessMist x = new CarelessMist();
            x.seed(d[0]);
            x.morning(1);
            Doc.is("z behind " + d[0], x.count(6), d[1]);
            Doc.is("what " + d[0] + " gives", x.listed(0), d[2]);
        }
    }

    // ---- spots, sheets

    private static void spotsAndSheets() {
        Doc.about(Doc.TERMS, "SPOTS 0 to 9 hold a THING or nothing (at first).");
        CarelessMist x = Scenes.of("cow 1; inn 2");
        for (int spot = 0; spot < 10; spot++) {
            Doc.is("SPOT " + spot + " at first", x.as(spot, 0), Scenes.MISSING);
            Doc.is("SPOT " + spot + " holds one", x.hold(spot, 1), 1);
            Doc.is("it does", x.as(spot, 0), 1);
            Doc.is("so many do", x.count(7), spot + 1);
        }
        Doc.is("SPOT 10", x.hold(10, 1), Scenes.BEYOND);
        Doc.is("SPOT -1", x.hold(-1, 1), Scenes.BEYOND);
        Doc.is("nothing", x.hold(9, -1), 1);
        Doc.is("it holds nothing", x.as(9, 0), Scenes.MISSING);

        Doc.about(Doc.TERMS, "SHEETS 0 to 3: rows of at most 40 numbers of 8, 16 or 32 bits (told with their sign: of 8 "
                + "bits 255 is -1), or MISSING (at first).");
        CarelessMist y = Scenes.of("walker 0 7");
        for (int s = 0; s < 4; s++) {
            Doc.is("sheet " + s + " at first", y.judge(s), Scenes.MISSING);
            Doc.is("40 numbers", y.sheet(s, 8, 40), 40);
            Doc.is("the last one", y.write(s, 39, 1), 1);
            Doc.is("none behind", y.write(s, 40, 1), Scenes.BEYOND);
            Doc.is("41 numbers", y.sheet(s, 8, 41), Scenes.BEYOND);
        }
        Doc.is("sheet 4", y.sheet(4, 8, 1), Scenes.BEYOND);
        Doc.is("sheet -1", y.sheet(-1, 8, 1), Scenes.BEYOND);
        // -1 is any to fits(), so it stands for all CELLS; 127 and 255 stand for none.
        int[][] numbers = {{8, 255, -1}, {8, 127, 127}, {8, 128, -128}, {16, 65535, -1}, {16, 255, 255},
            {16, 32768, -32768}, {16, 32767, 32767}, {32, -1, -1}, {32, 65535, 65535}, {32, 255, 255}};
        for (int[] n : numbers) {
            y.sheet(0, n[0], 1);
            y.write(0, 0, n[1]);
            Doc.is(n[1] + " of " + n[0] + " bits, any CELL", y.fits(0, 0), n[2] == -1 ? 65535 : 0);
            Doc.is(n[1] + " of " + n[0] + " bits, a set", y.load(0), n[2] >= 0 && n[2] <= 255 ? 1 : 0);
        }
        for (int bits = -1; bits < 66; bits++) {
            boolean known = bits == 0 || bits == 8 || bits == 16 || bits == 32;
            Doc.is(bits + " bits", y.sheet(0, bits, 1), !known ? Scenes.BEYOND : bits == 0 ? 0 : 1);
        }
    }
}
