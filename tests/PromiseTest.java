/** Promise by promise: ordinary inputs, the edges that the document names, wrong inputs. Answers are worked out by hand. */
public final class PromiseTest {
    private static final int BAD = -1, STATE = -2, FULL = -3, NONE = -9, NO = -1000000;

    /** Tolls for 7 barrels: 12 and 12 to lord 0, 7 and 18 to lord 1, 4 to lord 2; by land 14, 63, 21, 7, 0. */
    private static final String RIVER = "b7;c60;r3 2 0 5 2;r4 3 0 0 9;r1 1 1 10 3;r9 5 1 3 1;r2 4 2 0 0;";

    private static int checks;
    private static int wrong;
    private static int promise;

    private static void due(String what, long got, long want) {
        checks++;
        if (got != want) {
            wrong++;
            System.out.println("promise " + promise + ": " + what + " answered " + got + ", due is " + want);
        }
    }

    private static void type(RiverTolls x, String s) {
        for (int i = 0; i < s.length(); i++) x.type(s.charAt(i));
    }

    /** What river() answers to a text. */
    private static int read(String s) {
        RiverTolls x = new RiverTolls();
        type(x, s);
        return x.river();
    }

    private static RiverTolls told(String s) {
        RiverTolls x = new RiverTolls();
        type(x, s);
        due("river() of " + s, x.river() >= 0 ? 1 : 0, 1);
        return x;
    }

    /** r1 1 0 0 1; so many times. */
    private static String rocks(int n) {
        return "r1 1 0 0 1;".repeat(n);
    }

    private static void newObject() {
        promise = 1;
        RiverTolls x = new RiverTolls();
        int[] now = {0, 10, 100, NONE, 0, NONE, 0};
        for (int what = 0; what < now.length; what++) due("now(" + what + ")", x.now(what), now[what]);
        for (int what = 0; what < 3; what++) due("count(" + what + ")", x.count(what), 0);
        for (int lord = 0; lord < 4; lord++) due("got(" + lord + ")", x.got(lord), 0);
        due("trace()", x.trace(), 0);
        due("back(0)", x.back(0), STATE);
        due("back(1)", x.back(1), STATE);
        due("undo()", x.undo(), STATE);
        due("rock(0, 0)", x.rock(0, 0), BAD);
    }

    private static void type() {
        promise = 2;
        RiverTolls x = new RiverTolls();
        due("type(-1)", x.type(-1), BAD);
        due("type(256)", x.type(256), BAD);
        due("count(2)", x.count(2), 0);
        for (int n = 1; n <= 200; n++) due("type, letter " + n, x.type(n % 2 == 0 ? 0 : 255), n);
        due("type(32), full", x.type(32), FULL);
        due("type(256), full", x.type(256), BAD);
        due("count(2)", x.count(2), 200);
    }

    private static void clear() {
        promise = 3;
        RiverTolls x = new RiverTolls();
        due("clear()", x.clear(), 0);
        type(x, "zz");
        due("clear()", x.clear(), 2);
        due("clear()", x.clear(), 0);
        type(x, "b5;");
        due("river()", x.river(), 1);
        due("now(1)", x.now(1), 5);
    }

    private static void riverReads() {
        promise = 4;
        due("empty", read(""), 0);
        due("blanks", read("   "), 0);
        due("a river", read(RIVER), 7);
        due("all blanks", read(" r 0 1 0 0 0 ; b 1 ; c 0 ; "), 3);
        due("no blanks", read("b30;c900;r9 5 3 10 30;"), 3);
        due("eight", read(rocks(8)), 8);
        due("eight, b, c", read(rocks(4) + "c1;" + rocks(4) + "b1;"), 10);
        RiverTolls x = told("r2 3 1 4 5;");
        due("barrels untold", x.now(1), 10);
        due("coins untold", x.now(2), 100);
        due("the text is empty", x.count(2), 0);
    }

    private static void riverFaults() {
        promise = 4;
        due("TOLL 10", read("r10 1 1 1 1;"), -11);
        due("MEASURE 0", read("r1 0 1 1 1;"), -13);
        due("MEASURE 6", read("r1 6 1 1 1;"), -13);
        due("LORD 4", read("r1 1 4 1 1;"), -15);
        due("WATCH 11", read("r1 1 1 11 1;"), -17);
        due("LAND 31", read("r1 1 1 1 31;"), -19);
        due("four numbers", read("r1 1 1 1;"), -18);
        due("six numbers", read("r1 1 1 1 1 1;"), -21);
        due("no ;", read("r1 1 1 1 1 r"), -21);
        due("a ninth", read(rocks(8) + " r1 1 0 0 1;"), -10 - 89);
        due("b 0", read(" b0;"), -12);
        due("b 31", read("b  31;"), -13);
        due("b again", read("b3; b3;"), -14);
        due("c 901", read("c901;"), -11);
        due("c again", read("c3;c3;"), -13);
        due("b b", read("bb3;"), -11);
        due("a number first", read("5;"), -10);
        due("; first", read(" ;"), -11);
        due("another letter", read("b3 x;"), -13);
        due("a capital", read("B3;"), -10);
        due("a tab", read("b\t3;"), -11);
        due("letter 255", read("b3;\u00ff"), -13);
        due("a 0 ahead", read("b03;"), -11);
        due("two 0", read("c00;"), -11);
        due("0 ahead of a letter", read("c0x;"), -12);
        due("a long number", read("c" + "9".repeat(150) + ";"), -11);
        due("2 to the 32nd", read("c4294967296;"), -11);
        due("number parted", read("b1 0;"), -13);
        due("the first of two faults", read("b99;x"), -11);
        due("too early, r", read("r"), -11);
        due("too early, number", read("r1 1 1 1 1"), -20);
        due("too early, blanks", read("b 3   "), -16);
    }

    private static void riverAnew() {
        promise = 4;
        RiverTolls x = told(RIVER);
        x.pays();
        x.nights(5);
        x.nights(5);
        x.breaks(4);
        x.sets(3, 1);
        x.keep(0);
        x.keep(1);
        x.left(1, 1);
        x.rate(0, 0);
        type(x, "b3;!");
        due("river()", x.river(), -13);
        due("count(2), faulty", x.count(2), 4);
        due("now(0), faulty", x.now(0), 3);
        due("count(1), faulty", x.count(1), 1);
        due("now(4), faulty", x.now(4), 4);
        due("now(6), faulty", x.now(6), 5);
        due("rock(3, 0), faulty", x.rock(3, 0), 1);
        due("back(0), faulty", x.back(0), 3);
        due("sells(1, 1)", x.sells(1, 1), 49);
        x.clear();
        type(x, "r9 1 3 0 0;r1 1 1 1 1;");
        due("river()", x.river(), 2);
        int[] now = {0, 10, 100, NONE, 0, 90, 0};
        for (int what = 0; what < now.length; what++) due("now(" + what + "), anew", x.now(what), now[what]);
        due("got(0), anew", x.got(0), 0);
        due("count(0), anew", x.count(0), 2);
        due("count(1), anew", x.count(1), 0);
        due("back(0), anew", x.back(0), STATE);
        due("back(1), anew", x.back(1), STATE);
        due("undo(), anew", x.undo(), STATE);
        due("rock(1, 5), anew", x.rock(1, 5), 0);
        due("rock(2, 0), anew", x.rock(2, 0), BAD);
        due("trace(), anew", x.trace(), 1);
    }

    private static void rock() {
        promise = 5;
        RiverTolls x = told(RIVER);
        int[] second = {4, 3, 0, 0, 9, 0};
        int[] third = {1, 1, 1, 10, 3, 0};
        for (int what = 0; what < 6; what++) {
            due("rock(1, " + what + ")", x.rock(1, what), second[what]);
            due("rock(2, " + what + ")", x.rock(2, what), third[what]);
        }
        x.sets(1, 0);
        x.breaks(1);
        due("TOLL set", x.rock(1, 0), 0);
        due("BROKEN", x.rock(1, 5), 1);
        due("rock(-1, 0)", x.rock(-1, 0), BAD);
        due("rock(5, 0)", x.rock(5, 0), BAD);
        due("rock(0, -1)", x.rock(0, -1), BAD);
        due("rock(0, 6)", x.rock(0, 6), BAD);
    }

    private static void takes() {
        promise = 6;
        RiverTolls x = told(RIVER);
        due("none", x.takes(1, 0), 0);
        due("one", x.takes(1, 1), 4);
        due("a full measure", x.takes(1, 3), 4);
        due("one more", x.takes(1, 4), 8);
        due("thirty", x.takes(1, 30), 40);
        due("31", x.takes(1, 31), BAD);
        due("-1", x.takes(1, -1), BAD);
        due("rock 5", x.takes(5, 1), BAD);
        due("rock -1", x.takes(-1, 1), BAD);
        x.pays();
        due("a LETTER does not matter", x.takes(1, 3), 4);
        x.sets(1, 9);
        due("SET", x.takes(1, 3), 9);
        x.breaks(1);
        due("BROKEN", x.takes(1, 3), 0);
    }

    private static void now() {
        promise = 7;
        RiverTolls x = told(RIVER);
        int[] first = {0, 7, 60, NONE, 0, 12, 0};
        for (int what = 0; what < 7; what++) due("now(" + what + ")", x.now(what), first[what]);
        x.pays();
        int[] second = {1, 7, 48, 0, 0, 0, 1};
        for (int what = 0; what < 7; what++) due("now(" + what + "), paid", x.now(what), second[what]);
        x.lands();
        due("not enough: nothing changes", x.now(0), 1);
        x.pays();
        x.nights(0);
        int[] night = {3, 3, 48, NONE, 4, 9, 3};
        for (int what = 0; what < 7; what++) due("now(" + what + "), by night", x.now(what), night[what]);
        x.breaks(3);
        due("the next is BROKEN", x.now(5), 0);
        x.pays();
        x.pays();
        due("THE SEA", x.now(5), NONE);
        due("the last LETTER", x.now(3), 2);
        due("now(-1)", x.now(-1), BAD);
        due("now(7)", x.now(7), BAD);
        RiverTolls y = told("b8;r1 1 0 10 0;r1 1 0 10 0;");
        y.nights(1);
        y.nights(2);
        due("SEIZED in all", y.now(4), 6);
    }

    private static void got() {
        promise = 8;
        RiverTolls x = told("b2;r3 1 1 0 0;r1 1 1 0 0;r2 1 1 0 0;r4 1 3 0 1;r1 1 0 0 0;");
        x.pays();
        due("got(1)", x.got(1), 6);
        x.pays();
        x.pays();
        due("got(1), all", x.got(1), 10);
        x.lands();
        due("got(3), by land", x.got(3), 0);
        x.pays();
        due("got(0)", x.got(0), 2);
        due("got(2)", x.got(2), 0);
        due("got(-1)", x.got(-1), BAD);
        due("got(4)", x.got(4), BAD);
    }

    private static void pays() {
        promise = 9;
        due("no rocks", new RiverTolls().pays(), STATE);
        RiverTolls x = told("c30;r3 1 2 0 0;r9 1 2 0 0;r1 1 2 0 0;r0 1 0 0 0;r1 1 0 0 0;");
        due("all COINS", x.pays(), 30);
        due("LETTER", x.now(3), 2);
        due("COINS", x.now(2), 0);
        due("freed once", x.pays(), 0);
        due("no LETTER behind 0", x.now(3), NONE);
        due("not COINS enough", x.pays(), STATE);
        due("nothing changes", x.now(0), 2);
        due("nothing to undo more", x.now(6), 2);
        x.breaks(2);
        due("BROKEN", x.pays(), 0);
        due("a TOLL of 0", x.pays(), 0);
        due("a LORD who got 0 gives no LETTER", x.now(5), 10);
        x.sells(10, 1);
        due("no BARRELS", x.pays(), 0);
        due("at THE SEA", x.pays(), STATE);
        RiverTolls one = told("b1;r1 1 1 0 0;r5 1 1 0 0;");
        due("1 COIN", one.pays(), 1);
        due("is enough for a LETTER", one.pays(), 0);
    }

    private static void lands() {
        promise = 10;
        due("no rocks", new RiverTolls().lands(), STATE);
        RiverTolls x = told("b3;c14;r1 1 0 0 2;r1 1 0 0 3;r1 1 0 0 1;r5 2 0 0 0;");
        due("paid", x.pays(), 3);
        due("9 of 11", x.lands(), 9);
        due("no LETTER", x.now(3), NONE);
        due("2 left, 3 is too much", x.lands(), STATE);
        due("nothing changes", x.now(2), 2);
        x.sells(1, 0);
        due("just enough", x.lands(), 2);
        due("for nothing", x.lands(), 0);
        due("got(0)", x.got(0), 3);
        due("at THE SEA", x.lands(), STATE);
    }

    private static void nights() {
        promise = 11;
        due("no rocks", new RiverTolls().nights(0), STATE);
        due("no rocks, 10000", new RiverTolls().nights(10000), BAD);
        RiverTolls x = told("b15;c0;r9 1 0 10 9;r9 1 0 0 9;r9 1 0 10 9;r9 1 0 10 9;r9 1 0 10 9;r9 1 0 10 9;r9 1 0 10 9;");
        due("nights(-1)", x.nights(-1), BAD);
        due("nights(10000)", x.nights(10000), BAD);
        due("the greater half of 15", x.nights(9999), 8);
        due("WATCH 0", x.nights(0), 0);
        due("the greater half of 7", x.nights(1), 4);
        due("of 3", x.nights(2), 2);
        due("of 1", x.nights(3), 1);
        due("of none", x.nights(4), 0);
        due("on it goes", x.now(0), 6);
        due("in all", x.now(4), 15);
        x.nights(5);
        due("at THE SEA", x.nights(0), STATE);
        RiverTolls y = told("r1 1 0 10 0;r1 1 0 10 0;");
        y.pays();
        y.nights(0);
        due("no LETTER", y.now(3), NONE);
    }

    /** DRAW by ROCK and z: q and its square worked out with the document's words. */
    private static void draws() {
        promise = 11;
        for (int z = 0; z < 10000; z += 37) {
            for (int r = 0; r < 8; r++) {
                java.math.BigInteger q = java.math.BigInteger.valueOf(7919).multiply(java.math.BigInteger.valueOf(z))
                    .add(java.math.BigInteger.valueOf(6151L * r + 1));
                int last = q.multiply(q).mod(java.math.BigInteger.valueOf(65521)).intValue() / 8 % 10;
                due("at WATCH " + last, seen(r, z, last), 0);
                due("at WATCH " + (last + 1), seen(r, z, last + 1), 1);
            }
        }
    }

    private static int seen(int r, int z, int watch) {
        RiverTolls x = new RiverTolls();
        type(x, "b1;" + rocks(r) + "r0 1 0 " + watch + " 0;");
        x.river();
        for (int i = 0; i < r; i++) x.pays();
        return x.nights(z);
    }

    private static void sells() {
        promise = 12;
        RiverTolls x = told("b30;c900;");
        due("sells(0, 1)", x.sells(0, 1), BAD);
        due("sells(31, 1)", x.sells(31, 1), BAD);
        due("sells(1, -1)", x.sells(1, -1), BAD);
        due("sells(1, 31)", x.sells(1, 31), BAD);
        due("sells(2, 3)", x.sells(2, 3), 906);
        due("sells(28, 30)", x.sells(28, 30), 1746);
        due("now(1)", x.now(1), 0);
        due("none left", x.sells(1, 0), STATE);
        due("none left, BAD first", x.sells(31, 0), BAD);
        due("now(6)", x.now(6), 2);
        due("all 30", told("b30;").sells(30, 1), 130);
        RiverTolls y = told("b3;c0;" + rocks(1));
        due("4 of 3", y.sells(4, 1), STATE);
        due("for nothing", y.sells(3, 0), 0);
    }

    private static void sets() {
        promise = 13;
        RiverTolls x = told(RIVER);
        due("sets(0, 9)", x.sets(0, 9), 3);
        due("sets(0, 0)", x.sets(0, 0), 9);
        due("sets(0, 0), again", x.sets(0, 0), 0);
        due("now(6)", x.now(6), 3);
        due("rock(0, 0)", x.rock(0, 0), 0);
        x.pays();
        due("a passed one", x.sets(0, 5), 0);
        due("sets(5, 1)", x.sets(5, 1), BAD);
        due("sets(-1, 1)", x.sets(-1, 1), BAD);
        due("sets(0, 10)", x.sets(0, 10), BAD);
        due("sets(0, -1)", x.sets(0, -1), BAD);
        x.breaks(1);
        due("a BROKEN one", x.sets(1, 7), 4);
    }

    private static void breaks() {
        promise = 14;
        RiverTolls x = told(RIVER);
        due("breaks(4)", x.breaks(4), 1);
        due("breaks(0)", x.breaks(0), 2);
        due("breaks(0), again", x.breaks(0), STATE);
        due("breaks(5)", x.breaks(5), BAD);
        due("breaks(-1)", x.breaks(-1), BAD);
        due("now(6)", x.now(6), 2);
        x.pays();
        due("LETTER", x.now(3), NONE);
        x.pays();
        due("a passed one", x.breaks(1), 3);
    }

    private static void undo() {
        promise = 15;
        due("none", new RiverTolls().undo(), STATE);
        RiverTolls x = told(RIVER);
        x.pays();
        x.sets(1, 7);
        x.breaks(3);
        x.nights(3);
        x.nights(3);
        x.sells(1, 9);
        x.lands();
        x.pays();
        due("pays()", x.undo(), 7);
        due("now(0)", x.now(0), 4);
        due("lands()", x.undo(), 6);
        due("now(2)", x.now(2), 57);
        due("sells()", x.undo(), 5);
        due("now(1)", x.now(1), 3);
        due("nights()", x.undo(), 4);
        due("now(1)", x.now(1), 7);
        due("now(4)", x.now(4), 0);
        due("nights()", x.undo(), 3);
        due("now(3)", x.now(3), 0);
        due("breaks()", x.undo(), 2);
        due("rock(3, 5)", x.rock(3, 5), 0);
        due("sets()", x.undo(), 1);
        due("rock(1, 0)", x.rock(1, 0), 4);
        due("pays()", x.undo(), 0);
        due("got(0)", x.got(0), 0);
        due("now(2)", x.now(2), 60);
        due("none", x.undo(), STATE);
        for (int i = 0; i < 14; i++) x.sets(0, i % 10);
        due("10 are known", x.now(6), 10);
        for (int i = 9; i >= 0; i--) due("undo()", x.undo(), i);
        due("older ones are lost", x.rock(0, 0), 3);
        due("none", x.undo(), STATE);
        x.left(1, 1);
        x.sets(0, 1);
        x.undo();
        due("count(1)", x.count(1), 1);
        x.sets(9, 1);
        due("refused", x.now(6), 0);
    }

    private static void way() {
        promise = 16;
        RiverTolls x = told(RIVER);
        due("way(-1)", x.way(-1), 19);
        int[] land = {0, 0, 0, 0, 1};
        for (int r = 0; r < 5; r++) due("way(" + r + ")", x.way(r), land[r]);
        due("way(-2)", x.way(-2), BAD);
        due("way(5)", x.way(5), BAD);
        x.pays();
        due("with the LETTER", x.way(-1), 7);
        due("way(0), passed", x.way(0), NONE);
        RiverTolls even = told("b2;r1 1 0 0 1;r1 1 1 0 1;");
        due("as cheap: PAID", even.way(0), 0);
        due("as cheap: PAID", even.way(1), 0);
        due("way(-1)", even.way(-1), 4);
        RiverTolls dear = told("b2;r3 1 0 0 1;r9 1 0 0 30;");
        due("dearer, for the LETTER", dear.way(0), 0);
        due("way(-1)", dear.way(-1), 6);
        RiverTolls later = told("b1;r3 1 0 0 1;r2 1 0 0 3;r9 1 0 0 30;");
        due("a LETTER for the last one: by land first", later.way(0), 1);
        due("then paid", later.way(1), 0);
        due("way(-1)", later.way(-1), 3);
        RiverTolls poor = told("b1;c0;r5 1 0 0 9;");
        due("whatever COINS there are", poor.way(-1), 5);
        poor.breaks(0);
        due("BROKEN", poor.way(-1), 0);
        due("no rocks", new RiverTolls().way(-1), 0);
        due("no rocks, way(0)", new RiverTolls().way(0), BAD);
    }

    private static void enough() {
        promise = 17;
        due("no rocks", new RiverTolls().enough(), 1);
        due("just", told("b1;c5;r5 1 0 0 9;").enough(), 1);
        due("not", told("b1;c4;r5 1 0 0 9;").enough(), 0);
        due("by land", told("b1;c4;r5 1 0 0 4;").enough(), 1);
    }

    private static void toBreak() {
        promise = 18;
        RiverTolls x = told("b1;r5 1 0 0 30;r3 1 1 0 30;r5 1 2 0 30;r2 1 3 0 30;");
        due("15: it does", x.toBreak(15), 0);
        due("14: one, the least of them", x.toBreak(14), 1);
        due("10", x.toBreak(10), 1);
        due("9: two", x.toBreak(9), 3);
        due("5", x.toBreak(5), 5);
        due("4", x.toBreak(4), 7);
        due("0", x.toBreak(0), 15);
        due("-1", x.toBreak(-1), BAD);
        due("10000", x.toBreak(10000), BAD);
        due("9999", x.toBreak(9999), 0);
        x.breaks(2);
        due("one is BROKEN", x.toBreak(5), 1);
        due("all but it", x.toBreak(0), 11);
        x.pays();
        due("just those left", x.toBreak(2), 2);
        RiverTolls free = told("b1;r5 1 0 0 30;r9 1 0 0 30;");
        due("5: it does, by the LETTER", free.toBreak(5), 0);
        due("0", free.toBreak(0), 3);
        due("no rocks", new RiverTolls().toBreak(0), 0);
        due("one ahead of a lesser two", told("b1;r2 1 0 0 9;r2 1 1 0 9;r4 1 2 0 9;").toBreak(4), 4);
    }

    private static void byLord() {
        promise = 19;
        RiverTolls x = told(RIVER);
        int[] due = {12, 7, 0, 0};
        for (int lord = 0; lord < 4; lord++) due("byLord(" + lord + ")", x.byLord(lord), due[lord]);
        due("byLord(-1)", x.byLord(-1), BAD);
        due("byLord(4)", x.byLord(4), BAD);
        x.pays();
        due("what was paid is not to come", x.byLord(0), 0);
        due("byLord(1)", x.byLord(1), 7);
        RiverTolls twice = told("b1;r2 1 3 0 9;r0 1 0 0 9;r4 1 3 0 9;");
        due("twice", twice.byLord(3), 6);
    }

    private static void most() {
        promise = 20;
        RiverTolls x = told("b2;r3 1 0 0 4;r1 1 0 0 9;r5 2 1 0 0;");
        due("up to the way by land", x.most(0, 0), 5);
        due("how much", x.most(0, 1), 10);
        due("freed: the least TOLL", x.most(1, 0), 0);
        due("freed: nothing", x.most(1, 1), 0);
        due("by land for nothing", x.most(2, 0), 0);
        RiverTolls far = told("b4;r1 3 0 0 30;");
        due("9", far.most(0, 0), 9);
        due("18", far.most(0, 1), 18);
        due("the TOLL stays", far.rock(0, 0), 1);
        far.sells(4, 0);
        due("no BARRELS: 0", far.most(0, 0), 0);
        due("no BARRELS: nothing", far.most(0, 1), 0);
        due("most(1, 0)", far.most(1, 0), BAD);
        due("most(-1, 0)", far.most(-1, 0), BAD);
        due("most(0, 2)", far.most(0, 2), BAD);
        due("most(0, -1)", far.most(0, -1), BAD);
        far.breaks(0);
        due("BROKEN", far.most(0, 0), NONE);
        due("BROKEN, BAD first", far.most(0, 2), BAD);
        x.pays();
        due("passed", x.most(0, 1), NONE);
    }

    private static void still() {
        promise = 21;
        RiverTolls x = told("b2;r3 1 0 0 4;r1 1 1 0 1;r9 1 2 0 10;r0 1 3 0 9;r2 1 1 0 3;");
        due("3 of 4, 9 of 10 (10), 2 of 3; a TOLL of 0 is not paid", x.still(), 1 + 4 + 16);
        due("4 of 4, 1 of 2", told("b1;r4 1 0 0 4;r1 1 1 0 2;").still(), 2);
        x.breaks(0);
        due("BROKEN", x.still(), 4 + 16);
        x.pays();
        x.pays();
        x.pays();
        due("passed", x.still(), 16);
        due("no rocks", new RiverTolls().still(), 0);
        due("freed", told("b1;r2 1 0 0 9;r2 1 0 0 9;").still(), 1);
        RiverTolls empty = told("b1;r2 1 0 0 9;");
        empty.sells(1, 0);
        due("no BARRELS", empty.still(), 0);
    }

    private static void cheap() {
        promise = 22;
        RiverTolls x = told(RIVER);
        int[][] due = {{2, 3, 2}, {3, 4, 3}, {1, 1, 1}, {5, 9, 5}, {4, 1, 2}};
        for (int r = 0; r < 5; r++) {
            for (int what = 0; what < 3; what++) due("cheap(" + r + ", " + what + ")", x.cheap(r, what), due[r][what]);
        }
        x.pays();
        due("a LETTER does not matter", x.cheap(1, 0), 3);
        due("passed", x.cheap(0, 1), 3);
        x.sets(1, 0);
        due("TOLL 0: 1", x.cheap(1, 0), 1);
        due("TOLL 0: 0", x.cheap(1, 1), 0);
        due("TOLL 0: of 1", x.cheap(1, 2), 1);
        x.breaks(3);
        due("BROKEN: 1", x.cheap(3, 0), 1);
        due("BROKEN: 0", x.cheap(3, 1), 0);
        due("BROKEN: of 1", x.cheap(3, 2), 1);
        due("cheap(5, 0)", x.cheap(5, 0), BAD);
        due("cheap(-1, 0)", x.cheap(-1, 0), BAD);
        due("cheap(0, 3)", x.cheap(0, 3), BAD);
        due("cheap(0, -1)", x.cheap(0, -1), BAD);
    }

    private static void two() {
        promise = 23;
        RiverTolls x = told("b7;r5 3 0 0 30;");
        due("1 and 6", x.two(0), 1);
        due("5 and 10", x.two(1), 15);
        RiverTolls y = told("b5;r5 3 0 0 30;");
        due("2 and 3", y.two(0), 2);
        due("10", y.two(1), 10);
        RiverTolls own = told("b6;r9 5 0 0 2;");
        due("1 by land, 5 paid", own.two(0), 1);
        due("2 and 9", own.two(1), 11);
        RiverTolls free = told("b4;r1 1 0 0 1;r9 5 0 0 9;");
        free.pays();
        due("both with the LETTER", free.two(1), 0);
        due("two(-1)", free.two(-1), BAD);
        due("two(2)", free.two(2), BAD);
        free.sells(2, 0);
        due("two of them", free.two(0), 1);
        free.sells(1, 0);
        due("one", free.two(0), NONE);
        due("one", free.two(1), NONE);
        due("one, BAD first", free.two(2), BAD);
        RiverTolls half = told("b8;r5 4 0 0 30;");
        due("just the half", half.two(0), 4);
        due("10", half.two(1), 10);
    }

    private static void one() {
        promise = 24;
        due("19 by 7", told(RIVER).one(), 3);
        due("4 by 2", told("b2;r2 1 0 0 3;").one(), 2);
        due("5 by 3", told("b3;r5 3 0 0 3;").one(), 2);
        due("nothing", told("b3;r5 3 0 0 0;").one(), 0);
        RiverTolls x = told("b3;r5 3 0 0 3;");
        x.sells(2, 1);
        due("one BARREL", x.one(), 3);
        x.sells(1, 1);
        due("no BARRELS", x.one(), NONE);
    }

    private static void left() {
        promise = 25;
        RiverTolls x = told(RIVER);
        due("left(-1, 0)", x.left(-1, 0), BAD);
        due("left(9, 0)", x.left(9, 0), BAD);
        due("left(0, -1)", x.left(0, -1), BAD);
        due("left(0, 901)", x.left(0, 901), BAD);
        due("left(8, 900)", x.left(8, 900), 1);
        for (int n = 2; n <= 6; n++) due("left(0, 0)", x.left(0, 0), n);
        due("a seventh", x.left(0, 0), FULL);
        due("a seventh, BAD first", x.left(9, 0), BAD);
        due("count(1)", x.count(1), 6);
    }

    private static void forget() {
        promise = 26;
        RiverTolls x = told(RIVER);
        due("forget()", x.forget(), 0);
        x.left(0, 5);
        x.left(0, 5);
        due("forget()", x.forget(), 2);
        due("forget()", x.forget(), 0);
        due("none is to be so", x.took(), 256 + 31);
        due("left(0, 60)", x.left(0, 60), 1);
    }

    private static void took() {
        promise = 27;
        RiverTolls x = told(RIVER); // 60, 48, 48, 41, 41, 41 by the way
        due("nothing LEFT", x.took(), 256 + 31);
        x.left(3, 41);
        due("none ahead of it", x.took(), 256 + 8 + 16);
        x.forget();
        x.left(3, 40);
        due("one of three", x.took(), 7);
        x.left(1, 48);
        due("one of two", x.took(), 6);
        x.left(2, 47);
        due("just rock 1", x.took(), 2);
        x.left(4, 41);
        due("not both", x.took(), 0);
        x.forget();
        x.left(5, 40);
        due("by land, too", x.took(), 31);
        x.forget();
        x.left(6, 41);
        due("more than are left", x.took(), 0);
        x.forget();
        x.pays();
        x.left(2, 41);
        due("from NOW", x.took(), 256 + 8 + 16);
        x.pays();
        due("from a later NOW", x.took(), 256 + 16);
        x.left(3, 40);
        due("from a later NOW", x.took(), 16);
        RiverTolls y = new RiverTolls();
        due("no rocks", y.took(), 256);
        y.left(0, 99);
        due("no rocks, not so", y.took(), 0);
    }

    private static void odds() {
        promise = 28;
        RiverTolls x = told("r1 1 0 5 1;r1 1 0 4 1;r1 1 0 10 1;r1 1 0 0 1;r1 1 0 7 1;");
        due("none: 1", x.odds(0, 0), 1);
        due("none: of 1", x.odds(0, 1), 1);
        due("5 and 6 of 10: 3", x.odds(3, 0), 3);
        due("of 10", x.odds(3, 1), 10);
        due("WATCH 10: 0", x.odds(31, 0), 0);
        due("of 1", x.odds(31, 1), 1);
        due("WATCH 0", x.odds(8, 0), 1);
        due("9 of 100", x.odds(1 + 2 + 8 + 16, 0), 9);
        due("of 100", x.odds(1 + 2 + 8 + 16, 1), 100);
        due("odds(-1, 0)", x.odds(-1, 0), BAD);
        due("odds(32, 0)", x.odds(32, 0), BAD);
        due("odds(0, 2)", x.odds(0, 2), BAD);
        due("odds(0, -1)", x.odds(0, -1), BAD);
        x.pays();
        due("passed ones do not matter", x.odds(3, 0), 3);
        due("of 5", x.odds(3, 1), 5);
        RiverTolls all = told("r1 1 0 9 1;".repeat(8));
        due("1", all.odds(255, 0), 1);
        due("of 100000000", all.odds(255, 1), 100000000);
        due("no rocks", new RiverTolls().odds(1, 0), BAD);
    }

    private static void rate() {
        promise = 29;
        RiverTolls x = told(RIVER);
        int[][] due = {{3, 8, 1, 16, 1, 10}, {4, 4, -5, 8, -4, 11}, {1, 11, -2, 22, 0, 8}};
        for (int r = 0; r < 3; r++) {
            for (int kind = 0; kind < 6; kind++) due("rate(" + kind + ", " + r + ")", x.rate(kind, r), due[r][kind]);
        }
        due("rate(-1, 0)", x.rate(-1, 0), NO);
        due("rate(6, 0)", x.rate(6, 0), NO);
        due("rate(0, 5)", x.rate(0, 5), NO);
        due("rate(0, -1)", x.rate(0, -1), NO);
        x.sets(0, 9);
        x.sells(3, 0);
        due("SET", x.rate(1, 0), 14);
        due("fewer BARRELS", x.rate(5, 0), 13);
        x.breaks(0);
        due("BROKEN", x.rate(0, 0), 9);
    }

    private static void keep() {
        promise = 30;
        RiverTolls x = told(RIVER);
        due("keep(-1)", x.keep(-1), BAD);
        due("keep(2)", x.keep(2), BAD);
        due("keep(0)", x.keep(0), 0);
        x.pays();
        due("keep(1)", x.keep(1), 1);
        due("now(6)", x.now(6), 1);
        x.pays();
        due("back(0)", x.back(0), 0);
        due("back(1)", x.back(1), 1);
        due("keep(0), again", x.keep(0), 1);
        due("back(0)", x.back(0), 1);
    }

    private static void back() {
        promise = 31;
        RiverTolls x = told(RIVER);
        due("back(-1)", x.back(-1), BAD);
        due("back(2)", x.back(2), BAD);
        due("back(1)", x.back(1), STATE);
        x.pays();
        x.sets(2, 6);
        x.breaks(3);
        x.keep(1);
        x.pays();
        x.nights(0);
        x.sells(1, 30);
        x.sets(2, 2);
        x.breaks(4);
        x.left(1, 2);
        x.rate(0, 0);
        due("back(0)", x.back(0), STATE);
        due("nothing changes", x.now(6), 8);
        due("back(1)", x.back(1), 1);
        int[] now = {1, 7, 48, 0, 0, 0, 0};
        for (int what = 0; what < 7; what++) due("now(" + what + ")", x.now(what), now[what]);
        due("rock(2, 0)", x.rock(2, 0), 6);
        due("rock(3, 5)", x.rock(3, 5), 1);
        due("rock(4, 5)", x.rock(4, 5), 0);
        due("got(0)", x.got(0), 12);
        due("undo()", x.undo(), STATE);
        due("count(1)", x.count(1), 1);
        due("trace()", x.trace(), 1);
        x.lands();
        x.sets(2, 0);
        due("back(1), again", x.back(1), 1);
        due("rock(2, 0)", x.rock(2, 0), 6);
    }

    private static void count() {
        promise = 32;
        RiverTolls x = told(RIVER);
        x.left(0, 0);
        x.left(0, 0);
        type(x, "abc");
        due("count(0)", x.count(0), 5);
        due("count(1)", x.count(1), 2);
        due("count(2)", x.count(2), 3);
        due("count(-1)", x.count(-1), BAD);
        due("count(3)", x.count(3), BAD);
    }

    private static void trace() {
        promise = 33;
        long[] bodies = {1, 11, 101, 1011, 10101, 100001};
        RiverTolls all = told(RIVER);
        long sum = 0;
        for (int kind = 0; kind < 6; kind++) {
            RiverTolls x = told(RIVER);
            x.rate(kind, 1);
            due("trace() of kind " + kind, x.trace(), bodies[kind]);
            all.rate(kind, 1);
            sum += bodies[kind];
            due("trace() up to kind " + kind, all.trace(), sum);
        }
        all.rate(6, 0);
        all.rate(0, 5);
        due("BAD adds nothing", all.trace(), sum);
    }

    private static void constants() {
        promise = 1;
        due("BAD", RiverTolls.BAD, BAD);
        due("STATE", RiverTolls.STATE, STATE);
        due("FULL", RiverTolls.FULL, FULL);
        due("NONE", RiverTolls.NONE, NONE);
        due("NO", RiverTolls.NO, NO);
    }

    public static void main(String[] args) {
        constants();
        newObject();
        type();
        clear();
        riverReads();
        riverFaults();
        riverAnew();
        rock();
        takes();
        now();
        got();
        pays();
        lands();
        nights();
        draws();
        sells();
        sets();
        breaks();
        undo();
        way();
        enough();
        toBreak();
        byLord();
        most();
        still();
        cheap();
        two();
        one();
        left();
        forget();
        took();
        odds();
        rate();
        keep();
        back();
        count();
        trace();
        System.out.println("PromiseTest: " + checks + " checks, " + wrong + " wrong");
        if (wrong != 0) System.exit(1);
    }
}
