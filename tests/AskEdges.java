/** The edges of the document's Terms, 3: the way, tolls, what was left, odds. */
final class AskEdges {
    /** Eight rocks that cost a coin for each barrel, none freed by the one ahead. */
    private static final String EIGHT = "r1 1 0 0 30;r1 1 1 0 30;".repeat(4);
    /** With 10 barrels and 100 coins: 90, 80, 70 are left behind them. */
    private static final String THREE = "r1 1 0 0 30;r1 1 1 0 30;r1 1 2 0 30;";

    private AskEdges() {
    }

    @Says("WAY: of all ways on to THE SEA, PAID or BY LAND at each ROCK left, whatever COINS there are, the cheapest")
    static void cheapestWay() {
        Edges.on("", "way(-1)=0");
        Edges.on("c0;b1;r5 1 0 0 9;", "way(-1)=5; way(0)=0");
        Edges.on("c0;b2;r5 1 0 0 4;", "way(-1)=8; way(0)=1");
        Edges.on("b1;r2 1 0 0 9;r9 1 0 0 9;", "way(-1)=2; way(1)=0; pays(); way(-1)=0");
        Edges.on("b1;r5 1 0 0 9;r9 1 0 0 30;r9 1 1 0 9;", "lands(); way(-1)=18");
        Edges.on("b30;c0;" + "r9 1 0 0 30;r9 1 1 0 30;".repeat(4), "way(-1)=2160; sells(29, 0); way(-1)=72; sells(1, 0); way(-1)=0");
    }

    @Says("of several the first (PAID ahead of BY LAND, ROCK by ROCK)")
    static void firstWay() {
        Edges.on("b2;r3 1 0 0 2;", "way(-1)=4; way(0)=1");
        Edges.on("b2;r3 1 0 0 3;", "way(-1)=6; way(0)=0");
        Edges.on("b2;r3 1 0 0 4;", "way(-1)=6; way(0)=0");
        Edges.on("b2;r0 1 0 0 0;", "way(-1)=0; way(0)=0");
        Edges.on("b1;r3 1 0 0 1;r2 1 0 0 9;", "way(-1)=3; way(0)=0; way(1)=0");
        Edges.on("b1;r2 1 0 0 1;r2 1 0 0 9;r9 1 0 0 1;", "way(-1)=3; way(0)=0; way(1)=0; way(2)=1");
        Edges.on("b1;r3 1 0 0 1;r2 1 0 0 9;r9 1 0 0 1;", "way(-1)=3; way(0)=1; way(1)=0; way(2)=0");
        Edges.on("b1;r2 1 0 0 1;r2 1 0 0 9;r9 1 0 0 2;", "way(-1)=3; way(0)=1; way(1)=0; way(2)=0");
    }

    @Says(": how much; 1 if it goes BY LAND at a ROCK, 0 (NONE: a ROCK that is passed)")
    static void passed() {
        Edges.on(Edges.rocks(3), "way(0)=0; way(2)=0; way(3)=BAD; way(-2)=BAD; pays(); way(0)=NONE; way(1)=0; way(2)=0; way(3)=BAD;"
            + "pays(); pays(); way(0)=NONE; way(2)=NONE; way(3)=BAD; way(-1)=0");
        Edges.on("r9 1 0 0 1;r9 1 0 0 1;", "way(0)=1; way(1)=1; lands(); way(0)=NONE; way(1)=1");
    }

    @Says("ENOUGH: whether COINS are")
    static void enough() {
        Edges.on("", "enough()=1");
        Edges.on("c0;", "enough()=1");
        Edges.on("b1;c4;r5 1 0 0 9;", "enough()=0");
        Edges.on("b1;c5;r5 1 0 0 9;", "enough()=1");
        Edges.on("b1;c6;r5 1 0 0 9;", "enough()=1");
        Edges.on("b3;c5;r9 1 0 0 2;", "enough()=0");
        Edges.on("b3;c6;r9 1 0 0 2;", "enough()=1");
        Edges.on("b2;c4;r5 1 0 0 9;", "enough()=0; sells(1, 0); enough()=0; sets(0, 4); enough()=1");
    }

    @Says("BREAK for c (0 .. 9999)")
    static void breakNumbers() {
        Edges.on("", "toBreak(-1)=BAD; toBreak(0)=0; toBreak(9999)=0; toBreak(10000)=BAD");
        Edges.on("b30;c0;" + "r9 1 0 0 30;r9 1 1 0 30;".repeat(4), "toBreak(-1)=BAD; toBreak(0)=255; toBreak(269)=255; toBreak(270)=127;"
            + "toBreak(2159)=1; toBreak(2160)=0; toBreak(9999)=0; toBreak(10000)=BAD");
    }

    @Says("the fewest ROCKS left (bits; of as few the least) to be BROKEN so that the WAY costs c at most (0: it does)")
    static void fewest() {
        String text = "b1;r2 1 0 0 9;r2 1 1 0 9;r4 1 2 0 9;";
        Edges.on(text, "toBreak(8)=0; toBreak(7)=1; toBreak(6)=1; toBreak(5)=4; toBreak(4)=4; toBreak(3)=5; toBreak(2)=5; toBreak(1)=7");
        Edges.on(text, "toBreak(0)=7; pays(); toBreak(6)=0; toBreak(5)=2; toBreak(4)=2; toBreak(3)=4; toBreak(2)=4; toBreak(1)=6");
        Edges.on(text, "breaks(0); toBreak(6)=0; toBreak(5)=2; toBreak(3)=4; toBreak(1)=6; pays(); pays(); pays(); toBreak(0)=0");
        Edges.on("b1;r1 1 0 0 30;r9 1 0 0 30;", "toBreak(1)=0; toBreak(0)=3");
        Edges.on("b1;r1 1 0 0 0;r9 1 0 0 2;", "toBreak(1)=0; sets(0, 9); toBreak(2)=0; toBreak(1)=2");
    }

    @Says("MOST of a ROCK left: the TOLL (0 .. 9) by which it would get most by the WAY, of several the least: it; how much")
    static void mostToll() {
        Edges.on("b1;r1 1 0 0 30;", "most(0, 0)=9; most(0, 1)=9; rock(0, 0)=1");
        Edges.on("b1;r1 1 0 0 9;", "most(0, 0)=9; most(0, 1)=9");
        Edges.on("b1;r1 1 0 0 8;", "most(0, 0)=8; most(0, 1)=8");
        Edges.on("b5;r1 5 0 0 1;", "most(0, 0)=5; most(0, 1)=5");
        Edges.on("b30;r1 1 0 0 30;", "most(0, 0)=9; most(0, 1)=270");
        Edges.on("b1;r9 1 0 0 1;", "most(0, 0)=1; most(0, 1)=1");
        Edges.on("b1;r9 1 0 0 0;", "most(0, 0)=0; most(0, 1)=0");
        Edges.on("b1;r1 1 0 0 9;r5 1 0 0 9;", "most(0, 0)=9; most(0, 1)=9; most(1, 0)=0; most(1, 1)=0");
        Edges.on("b1;r5 1 0 0 9;", "sells(1, 0); most(0, 0)=0; most(0, 1)=0");
    }

    @Says("MOST: the TOLL (what = 0), how much (1); NONE: it is passed, BROKEN. BAD.")
    static void mostNone() {
        Edges.on("b1;r1 1 0 0 30;r1 1 0 0 30;r1 1 0 0 30;", "most(0, -1)=BAD; most(0, 2)=BAD; most(-1, 0)=BAD; most(3, 0)=BAD; most(0, 0)=9; pays();"
            + "most(0, 0)=NONE; most(0, 1)=NONE; most(0, 2)=BAD; most(1, 0)=0; most(2, 0)=9; breaks(2); most(2, 0)=NONE; most(2, 1)=NONE;"
            + "most(2, 2)=BAD; most(1, 0)=0; pays(); most(1, 0)=NONE; undo(); most(1, 1)=0");
    }

    @Says("STILL: ROCKS left (bits) where something is PAID by the WAY and would be yet,"
        + " if their own TOLL (one at a time; BROKEN ones: nothing) were 1 more")
    static void still() {
        Edges.on("b1;r4 1 0 0 4;", "still()=0");
        Edges.on("b1;r4 1 0 0 5;", "still()=1; breaks(0); still()=0");
        Edges.on("b1;r9 1 0 0 9;", "still()=0");
        Edges.on("b1;r9 1 0 0 10;", "still()=1; pays(); still()=0");
        Edges.on("b1;r0 1 0 0 30;", "still()=0");
        Edges.on("b1;r1 1 0 0 30;", "still()=1; sells(1, 0); still()=0");
        Edges.on("b1;r2 1 0 0 9;r2 1 0 0 9;", "still()=1; pays(); still()=0");
        Edges.on("b1;r2 1 0 0 4;r1 1 0 0 30;r2 1 0 0 30;", "still()=5; lands(); still()=2");
        Edges.on("b1;" + EIGHT, "still()=255; pays(); still()=254");
    }

    @Says("BY a LORD: what he would get by the WAY")
    static void byLord() {
        Edges.on("b1;r1 1 0 0 9;r2 1 3 0 9;r4 1 0 0 9;r8 1 3 0 1;", "byLord(-1)=BAD; byLord(0)=5; byLord(1)=0; byLord(3)=2; byLord(4)=BAD;"
            + "pays(); byLord(0)=4; byLord(3)=2; got(0)=1");
        Edges.on("b30;" + "r9 1 3 0 30;r9 1 2 0 30;".repeat(4), "byLord(3)=1080; byLord(2)=1080; byLord(1)=0");
    }

    @Says("CHEAP at a ROCK: the number of BARRELS (1 .. 30) by which its TOLL is least for each BARREL, without LETTERS,"
        + " of several the least; how much: a fraction")
    static void cheap() {
        Edges.on("r9 1 0 0 0;", "cheap(0, 0)=1; cheap(0, 1)=9; cheap(0, 2)=1");
        Edges.on("r3 2 0 0 0;", "cheap(0, 0)=2; cheap(0, 1)=3; cheap(0, 2)=2");
        Edges.on("r4 2 0 0 0;", "cheap(0, 0)=2; cheap(0, 1)=2; cheap(0, 2)=1");
        Edges.on("r6 4 0 0 0;", "cheap(0, 0)=4; cheap(0, 1)=3; cheap(0, 2)=2");
        Edges.on("r5 5 0 0 0;", "cheap(0, 0)=5; cheap(0, 1)=1; cheap(0, 2)=1");
        Edges.on("r1 5 0 0 0;", "cheap(0, 0)=5; cheap(0, 1)=1; cheap(0, 2)=5");
        Edges.on("r0 5 0 0 0;", "cheap(0, 0)=1; cheap(0, 1)=0; cheap(0, 2)=1");
        Edges.on("b1;r9 5 0 0 0;r9 5 0 0 0;", "pays(); cheap(1, 0)=5; cheap(1, 1)=9; cheap(1, 2)=5; cheap(0, 0)=5");
        Edges.on("b1;r9 5 0 0 0;", "sells(1, 0); cheap(0, 0)=5; breaks(0); cheap(0, 0)=1; cheap(0, 1)=0; cheap(0, 2)=1");
    }

    @Says("TWO: into which two BOATS to part the BARRELS (the first one has x of them, 1 to half of all, cut)")
    static void twoBoats() {
        Edges.on("b2;r9 5 0 0 30;", "two(0)=1; two(1)=18");
        Edges.on("b3;r5 2 0 0 30;", "two(0)=1; two(1)=10");
        Edges.on("b4;r5 2 0 0 30;", "two(0)=2; two(1)=10");
        Edges.on("b5;r5 3 0 0 30;", "two(0)=2; two(1)=10");
        Edges.on("b7;r5 4 0 0 30;", "two(0)=3; two(1)=10");
        Edges.on("b8;r5 4 0 0 30;", "two(0)=4; two(1)=10");
        Edges.on("b30;r1 3 0 0 30;r1 5 1 0 30;", "two(0)=15; two(1)=16");
    }

    @Says("each on its own WAY (both with the LETTER there is), so that both cost least, together, of several the least x")
    static void twoWays() {
        Edges.on("b6;r9 5 0 0 2;", "two(0)=1; two(1)=11");
        Edges.on("b4;r1 1 0 0 1;r9 5 0 0 9;", "pays(); two(0)=1; two(1)=0");
        Edges.on("b30;r5 5 0 0 30;", "two(0)=5; two(1)=30");
        Edges.on("b30;r1 1 0 0 30;", "two(0)=1; two(1)=30");
    }

    @Says("x; how much; NONE (fewer than 2)")
    static void fewerThanTwo() {
        Edges.on("", "two(0)=1; two(1)=0");
        Edges.on("b3;", "two(0)=1; sells(1, 0); two(0)=1; two(1)=0; sells(1, 0); two(0)=NONE; two(1)=NONE; two(2)=BAD; two(-1)=BAD;"
            + "sells(1, 0); two(0)=NONE; two(1)=NONE");
        Edges.on("b1;r1 1 0 0 1;", "two(0)=NONE");
        Edges.on("b2;r1 1 0 0 1;", "two(0)=1; two(1)=2");
    }

    @Says("LEFT (6 at most)")
    static void leftRows() {
        Edges.on("", "forget()=0; left(8, 1)=1; left(8, 1)=2; left(0, 1)=3; left(0, 1)=4; left(0, 1)=5; count(1)=5; left(0, 1)=6;"
            + "count(1)=6; left(0, 1)=FULL; left(9, 1)=BAD; count(1)=6; forget()=6; count(1)=0; left(0, 1)=1");
        Edges.on(THREE, "left(0, 100); left(0, 100); left(0, 100); left(0, 100); left(0, 100); left(1, 89); took()=1; left(2, 0)=FULL;"
            + "took()=1; forget(); took()=263");
    }

    @Says("behind so many ROCKS from NOW (when that is asked; 0 .. 8) v (0 .. 900) COINS were left")
    static void leftNumbers() {
        Edges.on("c0;", "left(-1, 0)=BAD; left(9, 0)=BAD; left(0, -1)=BAD; left(0, 901)=BAD; count(1)=0; left(0, 0)=1; took()=256;"
            + "left(8, 900)=2; took()=0");
        Edges.on("c900;b1;" + EIGHT, "left(0, 900)=1; took()=511; left(8, 892)=2; took()=256; forget(); left(8, 891)=1; took()=255;"
            + "left(7, 893)=2; took()=128; forget(); left(8, 890); took()=0");
        Edges.on("c8;b1;" + EIGHT, "left(8, 0)=1; took()=256");
        Edges.on("c9;b1;" + EIGHT, "left(8, 0)=1; took()=255");
        Edges.on("c7;b1;" + EIGHT, "left(8, 0)=1; took()=0");
        Edges.on(THREE, "left(1, 90); took()=262; pays(); took()=0; forget(); left(1, 80); took()=260; left(0, 90); took()=260");
    }

    @Says("TOOK: ROCKS (bits; of those left) of which, if just it took one COIN more than the WAY tells (PAID, BY LAND),"
        + " all that was LEFT would be so")
    static void took() {
        Edges.on(THREE, "took()=263; pays(); took()=262; pays(); took()=260; pays(); took()=256");
        Edges.on(THREE, "left(0, 100); took()=263; left(1, 90); took()=262; left(2, 79); took()=2");
        Edges.on(THREE, "left(0, 99); took()=0");
        Edges.on(THREE, "left(1, 89); took()=1; left(2, 79); took()=1; left(3, 69); took()=1; left(3, 70); took()=0");
        Edges.on("b1;c10;r9 1 0 0 2;r9 1 0 0 2;", "left(1, 7); took()=1; left(2, 5); took()=1");
        Edges.on("b1;c10;r9 1 0 0 2;r9 1 0 0 2;", "breaks(0); left(1, 9); took()=1; left(2, 7); took()=1");
    }

    @Says("(256: none of them did)")
    static void noneDid() {
        Edges.on("", "took()=256; left(0, 100); took()=256; left(0, 99); took()=0");
        Edges.on(THREE, "left(3, 70); took()=256; forget(); left(3, 71); took()=0; forget(); left(3, 69); took()=7; forget(); left(3, 68); took()=0");
    }

    @Says("Whatever was LEFT behind more ROCKS than are left is not so")
    static void behindTheSea() {
        Edges.on("", "left(0, 100); took()=256; left(1, 100); took()=0");
        Edges.on(THREE, "left(3, 70); took()=256; left(4, 70); took()=0");
        Edges.on(THREE, "left(4, 69); took()=0; forget(); left(4, 70); took()=0; forget(); left(8, 70); took()=0");
        Edges.on(THREE, "pays(); left(2, 70); took()=256; left(3, 70); took()=0");
        Edges.on(THREE, "pays(); pays(); pays(); left(0, 70); took()=256; left(1, 70); took()=0");
    }

    @Says("ODDS of a set of ROCKS (bits; those that are passed do not matter): passed BY NIGHT, SEEN by WATCH of 10 each")
    static void oddsSet() {
        Edges.on("", "odds(-1, 0)=BAD; odds(0, 0)=1; odds(0, 1)=1; odds(1, 0)=BAD");
        Edges.on("r1 1 0 5 1;r1 1 1 4 1;r1 1 2 9 1;", "odds(-1, 0)=BAD; odds(0, 0)=1; odds(0, 1)=1; odds(7, 0)=3; odds(7, 1)=100; odds(8, 0)=BAD;"
            + "pays(); odds(7, 0)=3; odds(7, 1)=50; odds(6, 1)=50; odds(1, 0)=1; odds(1, 1)=1; odds(8, 1)=BAD; pays(); pays();"
            + "odds(7, 0)=1; odds(7, 1)=1; odds(8, 0)=BAD");
        Edges.on("r1 1 0 1 1;".repeat(8), "odds(255, 0)=43046721; odds(255, 1)=100000000; odds(256, 0)=BAD");
    }

    @Says("that none is SEEN: a fraction")
    static void oddsFraction() {
        Edges.on("r1 1 0 0 1;r1 1 0 10 1;r1 1 0 5 1;", "odds(1, 0)=1; odds(1, 1)=1; odds(2, 0)=0; odds(2, 1)=1; odds(4, 0)=1; odds(4, 1)=2;"
            + "odds(7, 0)=0; odds(7, 1)=1; odds(5, 1)=2; breaks(2); odds(4, 1)=2");
        Edges.on("r1 1 0 9 1;".repeat(8), "odds(255, 0)=1; odds(255, 1)=100000000; odds(1, 1)=10");
        Edges.on("r1 1 0 5 1;".repeat(8), "odds(255, 0)=1; odds(255, 1)=256");
    }

    @Says("ONE for all: the least COINS for each BARREL by which as much at least comes as by the WAY; NONE (no BARRELS)")
    static void one() {
        Edges.on("", "one()=0; sells(9, 0); one()=0; sells(1, 0); one()=NONE");
        Edges.on("b5;r1 1 0 0 30;", "one()=1");
        Edges.on("b5;r1 1 0 0 30;r1 5 1 0 30;", "one()=2");
        Edges.on("b5;r4 5 0 0 30;", "one()=1");
        Edges.on("b1;r9 1 0 0 30;", "one()=9; sells(1, 0); one()=NONE");
        Edges.on("b2;r9 1 0 0 3;r1 1 0 0 30;", "way(0)=1; way(-1)=8; one()=4");
        Edges.on("b30;" + "r9 1 0 0 30;r9 1 1 0 30;".repeat(4), "one()=72");
    }
}
