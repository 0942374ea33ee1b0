import java.util.ArrayList;
import java.util.List;

/** THE TAPE and TEXTS, in the terms and in promises 29 to 31, sentence by sentence, at their boundaries. */
final class TextEdges {
    private static final int MIN = Integer.MIN_VALUE;
    private static final int MAX = Integer.MAX_VALUE;
    private static final String[] KINDS = {"thing", "steeple", "cow", "child", "lover", "bill", "inn"};

    private TextEdges() {
    }

    static void run() {
        tape();
        tokens();
        textsAndThings();
        walkers();
        turns();
        faults();
        earlyEnds();
        feeding();
        wiping();
        reading();
    }

    /** A TEXT's answer on a new object. */
    private static void reads(String text, int due) {
        Doc.is("[" + text + "]", Scenes.text(new CarelessMist(), text), due);
    }

    /** A TEXT with a FAULT at a place. */
    private static void faultAt(String text, int place) {
        reads(text, -1 - place);
    }

    // ---- terms

    private static void tape() {
        Doc.about(Doc.TERMS, "A TEXT is read from THE TAPE (bytes, at most 120).");
        CarelessMist x = new CarelessMist();
        for (int i = 1; i <= 120; i++) {
            Doc.is("byte " + i, x.feed(' ', 1), i);
        }
        Doc.is("byte 121", x.feed(' ', 1), Scenes.FULL);
        Doc.is("they are 120", x.count(5), 120);
        reads("cow 1" + " ".repeat(115), 1);
        reads(" ".repeat(114) + "cow 15", 1);
        reads("turn0 0 0;".repeat(11) + "turn0 0 0 ", 12);
        faultAt("turn0 0 0;".repeat(12), 120);
        faultAt(" ".repeat(120), 120);
        faultAt("c".repeat(120), 0);
        faultAt("cow " + "9".repeat(116), 4);
        reads("cow " + "0".repeat(116), 1);
        for (int b = 0; b < 256; b++) {
            boolean letter = b >= 'a' && b <= 'z';
            boolean digit = b >= '0' && b <= '9';
            // A letter begins a WORD and a digit stays in the NUMBER 1; 10 to 15 are CELLS.
            CarelessMist y = new CarelessMist();
            Scenes.feed(y, "cow 1");
            y.feed(b, 1);
            int due = b == ' ' ? 1 : b == ';' ? -7 : digit ? b <= '5' ? 1 : -5 : -6;
            Doc.is("byte " + b + " behind a NUMBER", y.text(), due);
            CarelessMist z = new CarelessMist();
            Scenes.feed(z, "cow");
            z.feed(b, 1);
            Doc.is("byte " + b + " behind a WORD", z.text(), letter ? -1 : digit ? 1 : b == ' ' ? -5 : -4);
        }
    }

    private static void tokens() {
        Doc.about(Doc.TERMS, "TOKENS, each as long as can be: WORDS (letters a to z), NUMBERS (digits, 999 at most), "
                + "SIGN ; ; blanks may stand between.");
        faultAt("cowcow 1", 0);
        faultAt("cows 1", 0);
        faultAt("cowa 1", 0);
        faultAt("cowz 1", 0);
        faultAt("walker 1 2 pacecares 1", 11);
        reads("cow`1", -4);
        reads("cow{1", -4);
        faultAt("Cow 1", 0);
        faultAt("cOw 1", 0);
        faultAt("coW 1", 0);
        faultAt("turn 000", 8);
        faultAt("turn 0 00", 9);
        faultAt("turn 0  00", 10);
        faultAt("walker 00", 9);
        reads("walker 0 0", 1);
        reads("cow 15", 1);
        reads("cow 0015", 1);
        faultAt("cow 150", 4);
        faultAt("cow 999", 4);
        faultAt("cow 1000", 4);
        faultAt("walker 0 0 cares 999", 17);
        faultAt("walker 0 0 cares 1000", 17);
        faultAt("walker 0 0 cares 1255", 17);
        faultAt("cow 4294967296", 4);
        faultAt("cow 4294967311", 4);
        faultAt("cow 18446744073709551616", 4);
        faultAt("cow 1/", 5);
        faultAt("cow 1:", 5);
        reads("cow 1;cow 2", 2);
        reads("cow1", 1);
        reads("cow1;cow2;inn3", 3);
        reads("cow 1 ; cow 2", 2);
        reads("   cow   1   ;   cow   2   ", 2);
        reads("walker1 2pace3cares4;turn1 2 3", 2);
        faultAt("c ow 1", 0);
        faultAt("cow 1 5", 6);
        faultAt("cow\t1", 3);
        faultAt("cow\n1", 3);
        faultAt("cow\u00001", 3);
        faultAt("cow\u00a01", 3);
        faultAt("\tcow 1", 0);
    }

    private static void textsAndThings() {
        Doc.about(Doc.TERMS, "TEXT: ITEM { ; ITEM }.");
        faultAt("", 0);
        faultAt(";", 0);
        faultAt(";cow 1", 0);
        reads("cow 1", 1);
        faultAt("cow 1;", 6);
        reads("cow 1;cow 2", 2);
        faultAt("cow 1;;cow 2", 6);
        faultAt("cow 1 cow 2", 6);
        faultAt("cow 1;cow 2;", 12);
        reads("thing 0;steeple 1;cow 2;child 3;lover 4;bill 5;inn 6;walker 0 0;turn 0 0 0;walker 1 1", 10);

        Doc.about(Doc.TERMS, "ITEM: thing, steeple, cow, child, lover, bill or inn, a NUMBER (a CELL): a new one");
        for (int kind = 0; kind < 7; kind++) {
            CarelessMist x = Scenes.of("cow 9");
            Doc.is(KINDS[kind] + " 0", Scenes.text(x, KINDS[kind] + " 0"), 1);
            Doc.is(KINDS[kind] + " 15", Scenes.text(x, KINDS[kind] + " 15"), 1);
            Doc.is("they are new", x.count(1), 3);
            for (int t = 1; t < 3; t++) {
                Doc.is("KIND", x.of(t, 0), kind);
                Doc.is("CELL", x.of(t, 1), t == 1 ? 0 : 15);
                Doc.is("MET", x.of(t, 2), 0);
            }
            int behind = KINDS[kind].length() + 1;
            faultAt(KINDS[kind] + " 16", behind);
            faultAt(KINDS[kind] + " ;", behind);
            faultAt(KINDS[kind] + " cow", behind);
            faultAt(KINDS[kind], behind - 1);
            faultAt(KINDS[kind] + " 1 1", behind + 2);
            for (String other : misspelt(KINDS[kind])) {
                faultAt(other + " 1", 0);
            }
        }
    }

    /** A WORD with a letter left out, put in, or another one in its place. */
    private static List<String> misspelt(String word) {
        List<String> all = new ArrayList<>();
        for (int i = 0; i < word.length(); i++) {
            all.add(word.substring(0, i) + word.substring(i + 1));
            all.add(word.substring(0, i) + "x" + word.substring(i));
            all.add(word.substring(0, i) + "x" + word.substring(i + 1));
        }
        all.add(word + "x");
        return all;
    }

    /** What a TEXT makes of WALKER 1: CELL, AIM, PACE, CARES, GOT, STRAYED. */
    private static void walkerIs(String text, int... due) {
        CarelessMist x = Scenes.of("walker 9 3 pace 4 cares 77");
        Doc.is("[" + text + "]", Scenes.text(x, text), 1);
        for (int what = 0; what < 6; what++) {
            Doc.is("[" + text + "] what " + what, x.ofWalker(1, what), due[what]);
        }
        Doc.is("the other one's PACE", x.ofWalker(0, 2), 4);
        Doc.is("the other one CARES", x.ofWalker(0, 3), 77);
    }

    private static void walkers() {
        Doc.about(Doc.TERMS, "walker, two NUMBERS (a CELL, AIM: 0 to 7), perhaps pace and a NUMBER (1 to 5), perhaps "
                + "cares and a NUMBER (0 to 255): a new one");
        walkerIs("walker 0 0", 0, 0, 2, 0, 0, 0);
        walkerIs("walker 15 7", 15, 7, 2, 0, 0, 0);
        walkerIs("walker 0 0 pace 1", 0, 0, 1, 0, 0, 0);
        walkerIs("walker 0 0 pace 5", 0, 0, 5, 0, 0, 0);
        walkerIs("walker 0 0 cares 0", 0, 0, 2, 0, 0, 0);
        walkerIs("walker 0 0 cares 255", 0, 0, 2, 255, 0, 0);
        walkerIs("walker 1 2 pace 3 cares 4", 1, 2, 3, 4, 0, 0);
        faultAt("walker 16 0", 7);
        faultAt("walker 0 8", 9);
        faultAt("walker 0 0 pace 0", 16);
        faultAt("walker 0 0 pace 6", 16);
        faultAt("walker 0 0 cares 256", 17);
        faultAt("walker 0", 8);
        faultAt("walker 0;", 8);
        faultAt("walker 0 pace 3", 9);
        faultAt("walker 0 0 0", 11);
        faultAt("walker 0 0 pace", 15);
        faultAt("walker 0 0 pace;", 15);
        faultAt("walker 0 0 pace cares 3", 16);
        faultAt("walker 0 0 pace 3 pace 3", 18);
        faultAt("walker 0 0 pace 3 3", 18);
        faultAt("walker 0 0 cares", 16);
        faultAt("walker 0 0 cares;", 16);
        faultAt("walker 0 0 cares 3 cares 3", 19);
        faultAt("walker 0 0 cares 3 pace 3", 19);
        faultAt("walker 0 0 cares 3 3", 19);
        faultAt("walker 0 0 cow 3", 11);
        for (String other : misspelt("walker")) {
            faultAt(other + " 0 0", 0);
        }
        for (String other : misspelt("pace")) {
            faultAt("walker 0 0 " + other + " 3", 11);
        }
        for (String other : misspelt("cares")) {
            faultAt("walker 0 0 pace 3 " + other + " 3", 18);
        }
    }

    private static void turns() {
        Doc.about(Doc.TERMS, "turn, three NUMBERS (a place of THE LIST, 0 to 5, a WALKER, 0 to 5, a THING, 0 to 7).");
        CarelessMist x = new CarelessMist();
        Doc.is("the most of all", Scenes.text(x, "turn 5 5 7"), 1);
        Doc.is("it is told", x.listed(5), 57);
        Doc.is("the least of all", Scenes.text(x, "turn 0 0 0;turn 5 0 0"), 2);
        Doc.is("it is told then", x.listed(5), 0);
        for (int place = 0; place < 6; place++) {
            Doc.is("place " + place, Scenes.text(x, "turn " + place + " 1 " + place), 1);
            Doc.is("place " + place + " is told", x.listed(place), 10 + place);
        }
        faultAt("turn 6 0 0", 5);
        faultAt("turn 0 6 0", 7);
        faultAt("turn 0 0 8", 9);
        faultAt("turn", 4);
        faultAt("turn 0", 6);
        faultAt("turn 0 0", 8);
        faultAt("turn ;", 5);
        faultAt("turn 0;", 6);
        faultAt("turn 0 0;", 8);
        faultAt("turn 0 0 0 0", 11);
        faultAt("turn 0 0 cow", 9);
        for (String other : misspelt("turn")) {
            faultAt(other + " 0 0 0", 0);
        }
    }

    private static void faults() {
        Doc.about(Doc.TERMS, "FAULT: the place (from 0) of the first byte of the first TOKEN that can't stand there");
        faultAt("xyz", 0);
        faultAt("   xyz", 3);
        faultAt("cow    99", 7);
        faultAt("cow 99; cow 99", 4);
        faultAt("cow 1; cow 99", 11);
        faultAt("cow 1  ;   cow   99", 17);

        Doc.about(Doc.TERMS, "a NUMBER that isn't as told");
        faultAt("cow 16", 4);
        faultAt("cow 1;walker 3 8", 15);
        faultAt("walker 3 3 pace 0", 16);
        faultAt("walker 3 3 cares 0256", 17);

        Doc.about(Doc.TERMS, "another WORD");
        faultAt("calf 1", 0);
        faultAt("pace 1", 0);
        faultAt("cares 1", 0);
        faultAt("cow cow", 4);
        faultAt("cow 1 inn", 6);
        faultAt("walker 1 1 run 3", 11);

        Doc.about(Doc.TERMS, "a byte that begins no TOKEN");
        faultAt("cow 1.", 5);
        faultAt("cow -1", 4);
        faultAt("cow +1", 4);
        faultAt("-", 0);
        faultAt("cow 1;#", 6);
        faultAt("cow 1;\u00ff", 6);

        Doc.about(Doc.TERMS, "the WORD of a 9th THING, of a 7th WALKER: its own");
        String things = "cow 1;cow 1;cow 1;cow 1;cow 1;cow 1;cow 1;cow 1";
        String walkers = "walker 1 1;walker 1 1;walker 1 1;walker 1 1;walker 1 1;walker 1 1";
        reads(things, 8);
        reads(walkers, 6);
        for (String kind : KINDS) {
            faultAt(things + ";" + kind + " 1", 48);
            faultAt(things + "; " + kind + " 99", 49);
            faultAt(things + ";" + kind, 48);
        }
        faultAt(things + ";cows", 48);
        faultAt(walkers + ";walker 1 1", 66);
        faultAt(walkers + ";walker 99", 66);
        faultAt(walkers + ";walker", 66);
        reads(things + ";" + walkers, 14);
        CarelessMist x = Scenes.of("cow 1; cow 1; cow 1; cow 1; cow 1; cow 1; cow 1; walker 1 1; walker 1 1; walker 1 1;"
                + "walker 1 1; walker 1 1");
        Doc.is("with those that there are, a 9th", Scenes.text(x, "inn 1;inn 2"), -7);
        Doc.is("with those that there are, a 7th", Scenes.text(x, "walker 1 1;walker 2 2"), -12);
        Doc.is("with those that there are, no more", Scenes.text(x, "inn 1;walker 1 1"), 2);
        Doc.is("a TURN may come all the same", Scenes.text(x, "turn 1 1 1"), 1);
    }

    private static void earlyEnds() {
        Doc.about(Doc.TERMS, "or how many bytes there are if it ends too early.");
        String[] begins = {"", "cow", "cow 1;", "walker", "walker 1", "walker 1 1 pace", "walker 1 1 cares",
            "walker 1 1 pace 1 cares", "turn", "turn 0", "turn 0 0", "turn 0 0 0;"};
        for (String begin : begins) {
            faultAt(begin, begin.length());
            faultAt(begin + " ", begin.length() + 1);
            faultAt(begin + "    ", begin.length() + 4);
        }
    }

    // ---- promises

    private static void feeding() {
        Doc.about(29, "THE TAPE gets the n lowest bytes of a number behind it, the highest of these first (n 1 to 4): how "
                + "many it has.");
        CarelessMist x = new CarelessMist();
        Doc.is("4 bytes", x.feed(0x636f7720, 4), 4);
        Doc.is("the lowest", x.feed(0x6d6d6d31, 1), 5);
        Doc.is("2 lowest", x.feed(0x6d6d3b69, 2), 7);
        Doc.is("3 lowest", x.feed(0x6d6e6e32, 3), 10);
        Doc.is("[cow 1;inn2]", x.text(), 2);
        Doc.is("a COW AT 1", 100 * x.of(0, 0) + x.of(0, 1), 201);
        Doc.is("an INN AT 2", 100 * x.of(1, 0) + x.of(1, 1), 602);
        Doc.is("from none on again", x.feed(MIN, 1), 1);
        CarelessMist y = new CarelessMist();
        Scenes.feed(y, "cow 1;");
        y.feed(0xff636f77, 4);
        Doc.is("the highest byte of a number below 0", y.text(), -7);
        CarelessMist z = new CarelessMist();
        Doc.is("of 0", z.feed(0, 4), 4);
        Doc.is("a byte 0 begins no TOKEN", z.text(), -1);

        Doc.about(29, "BEYOND: n.");
        for (int n : new int[] {0, 5, -1, MIN, MAX}) {
            Doc.finds("n " + n, () -> Scenes.of("cow 1"), Scenes.BEYOND, o -> o.feed(0x20202020, n));
            Doc.finds("n " + n + ", near the end", TermsEdges::crowded, Scenes.BEYOND, o -> o.feed(0x20202020, n));
        }

        Doc.about(29, "FULL.");
        for (int n = 1; n < 5; n++) {
            int bytes = n;
            Doc.finds(n + " more of 120", () -> fed(120), Scenes.FULL, o -> o.feed(0x20202020, bytes));
            Doc.finds(n + " more of " + (121 - n), () -> fed(121 - bytes), Scenes.FULL, o -> o.feed(0x31323334, bytes));
            Doc.is(n + " more of " + (120 - n), fed(120 - n).feed(0x31323334, n), 120);
        }
    }

    private static CarelessMist fed(int n) {
        CarelessMist x = new CarelessMist();
        for (int i = 0; i < n; i++) {
            x.feed(' ', 1);
        }
        return x;
    }

    private static void wiping() {
        Doc.about(30, "THE TAPE is empty: how many it had.");
        for (int n : new int[] {0, 1, 4, 119, 120}) {
            CarelessMist x = fed(n);
            Doc.is("of " + n, x.wipe(), n);
            Doc.is("none are left", x.count(5), 0);
            Doc.is("again", x.wipe(), 0);
            Doc.is("a TEXT of none", x.text(), -1);
            Doc.is("no finding", x.status(-1), 0);
        }
        CarelessMist x = new CarelessMist();
        Scenes.feed(x, "cows are");
        x.wipe();
        Scenes.feed(x, "cow 1");
        Doc.is("nothing of what it had is read", x.text(), 1);
        Doc.is("all else stays", Scenes.stateOf(wiped()).equals(Scenes.stateOf(unwiped())) ? 1 : 0, 1);
    }

    private static CarelessMist wiped() {
        CarelessMist x = TermsEdges.crowded();
        x.wipe();
        return x;
    }

    private static CarelessMist unwiped() {
        CarelessMist x = TermsEdges.crowded();
        x.text();
        return x;
    }

    private static void reading() {
        Doc.about(31, "THE TAPE is a TEXT, and empty then; all that it tells is so, item by item: how many ITEMS.");
        CarelessMist x = new CarelessMist();
        Doc.is("one", Scenes.text(x, "cow 3"), 1);
        Doc.is("empty then", x.count(5), 0);
        Doc.is("nothing is read again", x.text(), -1);
        Doc.is("the last of two TURNS stands", Scenes.text(x, "turn 1 1 1;turn 1 2 2;turn 2 0 0"), 3);
        Doc.is("it does", x.listed(1), 22);
        Doc.is("numbers go on", Scenes.text(x, "inn 4;walker 5 1;bill 6;walker 7 2"), 4);
        Doc.is("THINGS", 100 * x.of(0, 1) + 10 * x.of(1, 1) + x.of(2, 1), 346);
        Doc.is("WALKERS", 100 * x.ofWalker(0, 0) + x.ofWalker(1, 0), 507);
        Doc.is("as many THINGS", x.count(1), 3);
        Doc.is("as many WALKERS", x.count(2), 2);
        Doc.is("no finding", x.status(-1), 0);
        CarelessMist y = Scenes.of("cow 3; walker 5 0 pace 4 cares 9; turn 3 1 1");
        y.change(0, 2, 30);
        y.lead(0, 4, 40);
        y.lead(0, 5, 50);
        y.hold(2, 0);
        y.seed(60);
        y.go(2);
        int met = y.of(0, 2);
        int got = y.ofWalker(0, 4);
        int strayed = y.ofWalker(0, 5);
        Doc.is("a TEXT on a common that there is", Scenes.text(y, "thing 1"), 1);
        Doc.is("MET stays", y.of(0, 2), met);
        Doc.is("PACE stays", y.ofWalker(0, 2), 4);
        Doc.is("GOT stays", y.ofWalker(0, 4), got);
        Doc.is("STRAYED stays", y.ofWalker(0, 5), strayed);
        Doc.is("THE LIST stays", y.listed(3), 11);
        Doc.is("DAY, z and SPOTS stay", 1000 * y.count(0) + 10 * y.count(6) + y.count(7), 2601);

        Doc.about(31, "With a FAULT: -1 less the FAULT (nothing changes but that THE TAPE is empty; no finding).");
        String[] texts = {"", "x", "inn 1;inn 2;walker 3 3;turn 0 1 1;inn", "walker 3 3;walker 3 3 pace 9",
            "turn 0 5 5;turn 1 5 5;turn 2 5 5;", "inn 1;inn 1;inn 1;inn 1;inn 1;inn 1;inn 1"};
        int[] places = {0, 0, 37, 27, 33, 36};
        for (int i = 0; i < texts.length; i++) {
            CarelessMist faulty = small();
            Doc.is("[" + texts[i] + "]", Scenes.text(faulty, texts[i]), -1 - places[i]);
            Doc.is("THE TAPE is empty", faulty.count(5), 0);
            Doc.is("no finding", faulty.status(-1), 0);
            Doc.is("nothing changes", Scenes.stateOf(faulty).equals(Scenes.stateOf(small())) ? 1 : 0, 1);
            CarelessMist again = small();
            Scenes.text(again, texts[i]);
            Doc.is("a TEXT behind it", Scenes.text(again, "child 9;walker 8 7"), 2);
            Doc.is("a new one behind it", 100 * again.of(2, 0) + again.of(2, 1), 309);
            Doc.is("a new WALKER behind it", 100 * again.ofWalker(2, 0) + again.ofWalker(2, 2), 802);
        }
    }

    private static CarelessMist small() {
        CarelessMist x = Scenes.of("cow 1; inn 2; walker 1 1 pace 3 cares 3; walker 2 0; turn 1 1 1");
        x.hold(1, 1);
        x.image();
        x.go(2);
        return x;
    }
}
