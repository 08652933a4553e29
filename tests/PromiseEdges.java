/** What each call answers, at the ends of what it may be asked: the document's promises 1 to 33. */
final class PromiseEdges {
    private static final String ENDS = "-2147483648 -1000000 2147483647 1000000";
    /** Tolls for 7 barrels: 12 and 12 to lord 0, 7 and 18 to lord 1, 4 to lord 2; by land 14, 63, 21, 7, 0. */
    private static final String RIVER = "b7;c60;r3 2 0 5 2;r4 3 0 0 9;r1 1 1 10 3;r9 5 1 3 1;r2 4 2 0 0;";

    private PromiseEdges() {
    }

    /** Of a call with # for its number: from least to most it is not refused, at the next ones and far away it is. */
    private static void range(String text, String call, int least, int most, long refusal) {
        for (int number = least; number <= most; number += most - least < 300 ? 1 : most - least) {
            long answer = Run.of(text).ask(call.replace("#", "" + number));
            Edges.due("\"" + text + "\"", call + " of " + number + " refused", answer == refusal ? 1 : 0, 0);
        }
        String beyond = (least - 1) + " " + (most + 1) + " " + ENDS;
        for (String number : beyond.split(" ")) Edges.due("\"" + text + "\"", call + " of " + number, Run.of(text).ask(call.replace("#", number)), refusal);
    }

    private static void range(String text, String call, int least, int most) {
        range(text, call, least, most, -1);
    }

    @Says("`RiverTolls()`: As told; no ROCKS")
    static void newObject() {
        Edges.on("", "count(0)=0; count(1)=0; count(2)=0; now(0)=0; now(1)=10; now(2)=100; now(3)=NONE; now(4)=0; now(5)=NONE; now(6)=0; trace()=0;"
            + "got(0)=0; got(1)=0; got(2)=0; got(3)=0; back(0)=STATE; back(1)=STATE; undo()=STATE; rock(0, 0)=BAD; takes(0, 0)=BAD; most(0, 0)=BAD;"
            + "cheap(0, 0)=BAD; sets(0, 0)=BAD; breaks(0)=BAD; rate(0, 0)=NO; way(0)=BAD; still()=0; river()=0");
    }

    @Says("`int type(int letter)`: A letter (0 .. 255) comes to THE TEXT: how many it has. BAD; FULL.")
    static void type() {
        range("", "type(#)", 0, 255);
        Edges.on("", "type(0)=1; type(255)=2; type(-1)=BAD; type(256)=BAD; type(32)=3; count(2)=3");
        Edges.on("", "type(32);".repeat(199) + "type(32)=200; type(0)=FULL; type(255)=FULL; type(-1)=BAD; type(256)=BAD; count(2)=200");
    }

    @Says("`int clear()`: THE TEXT is empty: how many letters it had.")
    static void clear() {
        Edges.on("", "clear()=0; type(98)=1; clear()=1; clear()=0; count(2)=0; river()=0");
        Edges.on("", "type(32);".repeat(200) + "clear()=200; clear()=0; type(98)=1");
    }

    @Says("THE TEXT tells all anew, and is empty then: how many ITEMS.")
    static void river() {
        Edges.on("", "river()=0; type(32); river()=0; count(2)=0");
        Edges.reads("c1;", 1);
        Edges.reads(Edges.rocks(8), 8);
        Edges.reads("c1;" + Edges.rocks(8) + "b1;", 10);
        Run run = Edges.on(Edges.rocks(8), "count(0)=8; count(2)=0; river()=0; count(0)=0");
        Edges.goOn(run.type("c1;"), "count(2)=3; river()=1; count(2)=0; now(2)=1");
    }

    @Says("Of a ROCK: 0 TOLL, 1 MEASURE, 2 LORD, 3 WATCH, 4 LAND, 5 whether BROKEN (1, 0). BAD.")
    static void rock() {
        range(RIVER, "rock(0, #)", 0, 5);
        range(RIVER, "rock(#, 0)", 0, 4);
        range(Edges.rocks(8), "rock(#, 5)", 0, 7);
        Edges.on("r9 5 3 10 30;", "rock(0, 0)=9; rock(0, 1)=5; rock(0, 2)=3; rock(0, 3)=10; rock(0, 4)=30; rock(0, 5)=0; breaks(0); rock(0, 5)=1;"
            + "rock(0, 0)=9; rock(0, 3)=10; rock(0, 4)=30");
    }

    @Says("What a ROCK would take of n (0 .. 30) BARRELS, without a LETTER. BAD.")
    static void takes() {
        range(RIVER, "takes(0, #)", 0, 30);
        range(RIVER, "takes(#, 0)", 0, 4);
        Edges.on(RIVER, "takes(4, 0)=0; takes(4, 30)=16; pays(); takes(1, 7)=12; takes(0, 30)=45");
    }

    @Says("`int now(int what)`: 0 AT, 1 BARRELS, 2 COINS, 3 LETTER (the LORD; NONE), 4 SEIZED, 5 what the next ROCK TAKES (NONE: THE SEA),"
        + " 6 how many may be UNDONE. BAD.")
    static void now() {
        range(RIVER, "now(#)", 0, 6);
        Edges.on("r0 1 0 10 0;r9 1 3 0 1;", "now(0)=0; now(3)=NONE; now(5)=0; nights(8)=5; now(0)=1; now(1)=5; now(4)=5; now(5)=45; pays(); now(2)=55;"
            + "now(3)=3; now(5)=NONE; now(6)=2");
    }

    @Says("GOT by a LORD (0 .. 3). BAD.")
    static void got() {
        range(RIVER, "got(#)", 0, 3);
    }

    @Says("PAID: what it took. STATE: at THE SEA, not COINS enough.")
    static void pays() {
        Edges.on("", "pays()=STATE");
        Edges.on("b30;c270;r9 1 0 0 0;", "pays()=270; now(2)=0; pays()=STATE");
        Edges.on("b30;c269;r9 1 0 0 0;", "pays()=STATE; now(2)=269; now(0)=0; now(6)=0");
    }

    @Says("BY LAND: what it cost. STATE: at THE SEA, not COINS enough.")
    static void lands() {
        Edges.on("", "lands()=STATE");
        Edges.on("b30;c900;r9 1 0 0 30;", "lands()=900; now(2)=0; lands()=STATE");
        Edges.on("b30;c899;r9 1 0 0 30;", "lands()=STATE; now(2)=899; now(0)=0; now(6)=0");
    }

    @Says("BY NIGHT: how many BARRELS were SEIZED. BAD; STATE: at THE SEA.")
    static void nights() {
        range(RIVER, "nights(#)", 0, 9999);
        Edges.on("", "nights(-1)=BAD; nights(10000)=BAD; nights(0)=STATE; nights(9999)=STATE");
        Edges.on("b1;r1 1 0 10 0;", "nights(0)=1; nights(0)=STATE; nights(10000)=BAD; now(6)=1");
    }

    @Says("SOLD: COINS then. BAD; STATE: there are not so many BARRELS, above 999999.")
    static void sells() {
        range("b30;", "sells(#, 0)", 1, 30);
        range("b30;", "sells(1, #)", 0, 30);
        Edges.on("b5;", "sells(6, 0)=STATE; sells(6, 31)=BAD; sells(31, 0)=BAD; sells(5, 30)=250; sells(1, 0)=STATE; sells(0, 0)=BAD; now(6)=1");
    }

    @Says("SET (t 0 .. 9): the TOLL till then. BAD.")
    static void sets() {
        range(RIVER, "sets(0, #)", 0, 9);
        range(RIVER, "sets(#, 0)", 0, 4);
        Edges.on(RIVER, "sets(0, 9)=3; sets(0, 0)=9; sets(0, 10)=BAD; sets(0, -1)=BAD; sets(0, 1)=0; sets(4, 0)=2; sets(5, 0)=BAD");
    }

    @Says("BROKEN: how many are. BAD; STATE: it is.")
    static void breaks() {
        range(RIVER, "breaks(#)", 0, 4);
        Edges.on(RIVER, "breaks(4)=1; breaks(4)=STATE; breaks(0)=2; breaks(0)=STATE; breaks(5)=BAD; breaks(-1)=BAD; rock(4, 5)=1; rock(1, 5)=0; now(6)=2;"
            + "undo()=1; breaks(0)=2");
    }

    @Says("WAY: how much (r = -1), whether BY LAND at a ROCK (NONE). BAD.")
    static void way() {
        range(RIVER, "way(#)", -1, 4);
        range("", "way(#)", -1, -1);
        Edges.on(RIVER, "way(-1)=19; way(4)=1; pays(); way(0)=NONE; way(1)=0");
    }

    @Says("ENOUGH: 1, 0.")
    static void enough() {
        Edges.on(RIVER, "enough()=1");
        Edges.on(RIVER.replace("c60", "c19"), "enough()=1");
        Edges.on(RIVER.replace("c60", "c18"), "enough()=0");
    }

    @Says("BREAK, as bits. BAD.")
    static void toBreak() {
        range(RIVER, "toBreak(#)", 0, 9999);
        Edges.on(RIVER, "toBreak(19)=0; toBreak(18)=3; toBreak(7)=3; toBreak(6)=15; toBreak(0)=15");
    }

    @Says("What a LORD would get. BAD.")
    static void byLord() {
        range(RIVER, "byLord(#)", 0, 3);
    }

    @Says("`int most(int r, int what)`: ")
    static void most() {
        range(RIVER, "most(#, 0)", 0, 4);
        range(RIVER, "most(0, #)", 0, 1);
    }

    @Says("STILL, as bits.")
    static void still() {
        Edges.on(RIVER, "still()=5; sets(2, 3); still()=5; sets(2, 4); still()=1");
    }

    @Says("CHEAP: BARRELS (what = 0), upper (1), lower number (2), in least terms. BAD.")
    static void cheap() {
        range(RIVER, "cheap(#, 0)", 0, 4);
        range(RIVER, "cheap(0, #)", 0, 2);
        Edges.on("r8 4 0 0 0;r6 4 0 0 0;r3 4 0 0 0;", "cheap(0, 1)=2; cheap(0, 2)=1; cheap(1, 1)=3; cheap(1, 2)=2; cheap(2, 1)=3; cheap(2, 2)=4");
    }

    @Says("TWO: x (what = 0), how much (1); NONE. BAD.")
    static void two() {
        range(RIVER, "two(#)", 0, 1);
        range("b1;", "two(#)", 0, 1);
        Edges.on("b1;", "two(0)=NONE; two(1)=NONE; two(2)=BAD");
        Edges.on("b2;", "two(0)=1; two(1)=0; two(2)=BAD");
    }

    @Says("ONE for all; NONE.")
    static void one() {
        Edges.on("b1;r9 1 0 0 30;", "one()=9; nights(0)=0; one()=0; sells(1, 0); one()=NONE");
    }

    @Says("LEFT: how much there is. BAD; FULL.")
    static void left() {
        range("", "left(#, 0)", 0, 8);
        range(RIVER, "left(#, 0)", 0, 8);
        range("", "left(0, #)", 0, 900);
        Edges.on("", "left(0, 0)=1; left(9, 0)=BAD; left(8, 901)=BAD; left(8, 900)=2; left(0, 0)=3; left(0, 0)=4; left(0, 0)=5; left(0, 0)=6;"
            + "left(0, 0)=FULL; left(-1, 0)=BAD; left(0, -1)=BAD; count(1)=6");
    }

    @Says("Nothing was LEFT: how much there was.")
    static void forget() {
        Edges.on("", "forget()=0; left(0, 0); forget()=1; forget()=0; count(1)=0;" + "left(1, 1);".repeat(6) + "forget()=6; took()=256; left(0, 0)=1");
    }

    @Says("TOOK, as bits.")
    static void took() {
        Edges.on(RIVER, "took()=287; left(5, 40); took()=31; left(0, 61); took()=0");
    }

    @Says("ODDS: upper (what = 0), lower number (1), in least terms. BAD (bits of ROCKS there are).")
    static void odds() {
        range(RIVER, "odds(#, 0)", 0, 31);
        range(Edges.rocks(8), "odds(#, 1)", 0, 255);
        range("", "odds(#, 0)", 0, 0);
        range(RIVER, "odds(0, #)", 0, 1);
    }

    @Says("RATE. NO: BAD.")
    static void rate() {
        range(RIVER, "rate(#, 0)", 0, 5, -1000000);
        range(RIVER, "rate(5, #)", 0, 4, -1000000);
        Edges.on("", "rate(0, 0)=NO; trace()=0");
    }

    @Says("The constants: `NO = -1000000`: What none is, where a number may be below 0.")
    static void no() {
        Edges.due("the class", "NO", RiverTolls.NO, -1000000);
        Edges.on("r0 1 0 0 1;r0 1 0 0 0;", "rate(2, 0)=-1; rate(4, 0)=-1; rate(4, 1)=1; rate(2, 2)=NO");
    }

    @Says("All of that becomes as an IMAGE has it: AT. BAD; STATE: none was kept.")
    static void back() {
        range(RIVER, "keep(#)", 0, 1);
        range(RIVER, "back(#)", 0, 1);
        Edges.on(RIVER, "back(0)=STATE; back(1)=STATE; back(-1)=BAD; back(2)=BAD; keep(1)=0; back(0)=STATE; back(1)=0; keep(0)=0; back(0)=0");
    }

    @Says("0 ROCKS, 1 LEFT, 2 letters of THE TEXT. BAD.")
    static void count() {
        range(RIVER, "count(#)", 0, 2);
        Edges.on(Edges.rocks(8), "count(0)=8; count(1)=0; left(0, 0); count(1)=1; type(0); count(2)=1");
    }
}
