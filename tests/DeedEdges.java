import static java.util.stream.Collectors.joining;
import static java.util.stream.IntStream.rangeClosed;

/** The edges of the document's Terms, 2: tolls paid, by land, by night, sold, set, broken, undone. */
final class DeedEdges {
    private DeedEdges() {
    }

    @Says("AT is the next ROCK (0 at first; behind the last one: THE SEA)")
    static void at() {
        Edges.on("", "now(0)=0; now(5)=NONE; pays()=STATE; lands()=STATE; nights(0)=STATE");
        Edges.on(Edges.rocks(1), "now(0)=0; now(5)=10; pays()=10; now(0)=1; now(5)=NONE; pays()=STATE; now(0)=1");
        Edges.on(Edges.rocks(8), "lands(); lands(); lands(); lands(); lands(); lands(); lands(); now(0)=7; now(5)=10;"
            + "lands()=10; now(0)=8; now(5)=NONE; lands()=STATE; nights(0)=STATE; now(0)=8");
    }

    @Says("TAKES: TOLL times how many MEASURES its BARRELS are (the last one not full, too)")
    static void measures() {
        Edges.on("r9 1 0 0 0;", "takes(0, 0)=0; takes(0, 1)=9; takes(0, 2)=18; takes(0, 29)=261; takes(0, 30)=270");
        Edges.on("r9 2 0 0 0;", "takes(0, 0)=0; takes(0, 1)=9; takes(0, 2)=9; takes(0, 3)=18; takes(0, 29)=135; takes(0, 30)=135");
        Edges.on("r9 3 0 0 0;", "takes(0, 0)=0; takes(0, 1)=9; takes(0, 3)=9; takes(0, 4)=18; takes(0, 27)=81; takes(0, 28)=90");
        Edges.on("r9 4 0 0 0;", "takes(0, 0)=0; takes(0, 1)=9; takes(0, 4)=9; takes(0, 5)=18; takes(0, 28)=63; takes(0, 29)=72");
        Edges.on("r9 5 0 0 0;", "takes(0, 0)=0; takes(0, 1)=9; takes(0, 5)=9; takes(0, 6)=18; takes(0, 25)=45; takes(0, 26)=54");
        Edges.on("r0 5 0 0 0;", "takes(0, 0)=0; takes(0, 30)=0");
        Edges.on("b5;r9 5 0 0 0;", "now(5)=9; pays()=9");
        Edges.on("b6;r9 5 0 0 0;", "now(5)=18; pays()=18");
    }

    @Says("0, if the LORD was PAID at the ROCK ahead (his LETTER frees it once), or it is BROKEN")
    static void freedOnce() {
        Edges.on(Edges.rocks(5), "pays()=10; pays()=0; pays()=10; pays()=0; pays()=10");
        Edges.on("r1 1 0 0 1;r1 1 1 0 1;r1 1 0 0 1;", "pays()=10; pays()=10; pays()=10");
        Edges.on("r1 1 3 0 1;r1 1 3 0 1;", "now(3)=NONE; pays()=10; now(3)=3; now(5)=0; pays()=0; now(3)=NONE");
        Edges.on(Edges.rocks(2), "lands()=10; now(5)=10; pays()=10");
        Edges.on(Edges.rocks(2), "nights(0)=0; now(5)=10; pays()=10");
        Edges.on(Edges.rocks(3), "pays()=10; lands()=10; pays()=10");
        Edges.on("r1 1 0 0 1;r1 1 1 0 1;", "breaks(1); takes(1, 30)=0; takes(0, 30)=30; lands(); now(5)=0; pays()=0");
    }

    @Says("PAID: what it TAKES goes from COINS (0 too)")
    static void paid() {
        Edges.on("c10;" + Edges.rocks(2), "pays()=10; now(2)=0; pays()=0; now(2)=0; now(0)=2");
        Edges.on("c9;" + Edges.rocks(1), "pays()=STATE; now(2)=9; now(0)=0");
        Edges.on("c11;" + Edges.rocks(1), "pays()=10; now(2)=1");
        Edges.on("c0;r0 1 0 0 1;", "pays()=0; now(0)=1");
        Edges.on("c0;b1;r1 1 0 0 1;", "pays()=STATE; now(0)=0");
        Edges.on("c0;" + Edges.rocks(1), "breaks(0); pays()=0; now(0)=1");
    }

    @Says("the BOAT is at the next one, with that LORD's LETTER, if what was paid is above 0, else with none")
    static void letter() {
        Edges.on("b1;r1 5 2 0 1;r1 1 2 0 1;", "pays()=1; now(0)=1; now(3)=2; pays()=0; now(0)=2; now(3)=NONE");
        Edges.on("r0 1 2 0 1;r1 1 2 0 1;", "pays()=0; now(3)=NONE; pays()=10; now(3)=2");
        Edges.on("r1 1 2 0 1;r1 1 2 0 1;", "breaks(0); pays()=0; now(3)=NONE; now(5)=10");
        Edges.on("r1 1 2 0 1;r1 1 2 0 1;", "sells(10, 0); pays()=0; now(3)=NONE");
        Edges.on("r1 1 1 0 1;r1 1 2 0 1;", "pays()=10; now(3)=1; pays()=10; now(3)=2");
    }

    @Says("BY LAND: LAND times BARRELS goes from COINS, no LETTER; next")
    static void byLand() {
        Edges.on("c30;b3;r1 1 0 0 10;", "lands()=30; now(2)=0; now(0)=1; now(3)=NONE; got(0)=0");
        Edges.on("c29;b3;r1 1 0 0 10;", "lands()=STATE; now(2)=29; now(0)=0");
        Edges.on("c31;b3;r1 1 0 0 10;", "lands()=30; now(2)=1");
        Edges.on("c0;b30;r1 1 0 0 0;", "lands()=0; now(0)=1");
        Edges.on("c0;b1;r1 1 0 0 1;", "lands()=STATE; sells(1, 0); lands()=0");
        Edges.on(Edges.rocks(3), "pays(); now(3)=0; lands()=10; now(3)=NONE; now(5)=10");
    }

    @Says("BY NIGHT by z (0 .. 9999): nothing is paid")
    static void nightNumbers() {
        Edges.on("c5;" + Edges.rocks(3), "nights(-1)=BAD; nights(10000)=BAD; now(0)=0; nights(0)=0; now(0)=1; nights(9999)=0;"
            + "now(0)=2; now(2)=5; got(0)=0");
        Edges.on("c0;b30;r9 1 0 10 30;", "nights(0)=15; now(2)=0; got(0)=0");
    }

    /** z = 0, ROCK 0: q = 1, DRAW 0. z = 8: 6029. z = 0, ROCK 1: q = 6152, 41487 by 8 is 5185, and 7 left. */
    @Says("SEEN, if DRAW modulo 10 is below WATCH")
    static void seen() {
        Edges.on("b1;r0 1 0 0 0;", "nights(0)=0");
        Edges.on("b1;r0 1 0 1 0;", "nights(0)=1");
        Edges.on("b1;r0 1 0 9 0;", "nights(8)=0");
        Edges.on("b1;r0 1 0 10 0;", "nights(8)=1");
        Edges.on("b1;r0 1 0 0 0;r0 1 0 5 0;", "pays(); nights(0)=0");
        Edges.on("b1;r0 1 0 0 0;r0 1 0 6 0;", "pays(); nights(0)=1");
    }

    /** z = 9999, ROCK 0: q = 79182082, 51303 by 8 is 6412, and 7 left. ROCK 7: q = 79225139, 32337, 4042. */
    @Says("(DRAW is ((q times q) modulo 65521) by 8, cut, q 7919 z, 6151 times the ROCK's number, and 1 together)")
    static void drawIsCut() {
        Edges.on("b1;r0 1 0 2 0;", "nights(9999)=0");
        Edges.on("b1;r0 1 0 3 0;", "nights(9999)=1");
        String seven = "r0 1 0 0 0;".repeat(7);
        Edges.on("b1;" + seven + "r0 1 0 2 0;", "pays();".repeat(7) + "nights(9999)=0");
        Edges.on("b1;" + seven + "r0 1 0 3 0;", "pays();".repeat(7) + "nights(9999)=1");
        Edges.on("b1;" + seven + "r0 1 0 3 0;", "pays();".repeat(7) + "nights(0)=0");
        Edges.on("b1;" + seven + "r0 1 0 4 0;", "pays();".repeat(7) + "nights(0)=1");
    }

    @Says("half of its BARRELS (the greater half) are SEIZED then")
    static void greaterHalf() {
        String watched = "r0 1 0 10 0;";
        Edges.on("b1;" + watched, "nights(8)=1; now(1)=0; now(4)=1");
        Edges.on("b2;" + watched, "nights(8)=1; now(1)=1; now(4)=1");
        Edges.on("b3;" + watched, "nights(8)=2; now(1)=1; now(4)=2");
        Edges.on("b29;" + watched, "nights(8)=15; now(1)=14; now(4)=15");
        Edges.on("b30;" + watched, "nights(8)=15; now(1)=15; now(4)=15");
        Edges.on("b7;" + watched + watched, "nights(8)=4; nights(8)=2; now(1)=1; now(4)=6");
        Edges.on("b7;r0 1 0 0 0;", "nights(8)=0; now(1)=7; now(4)=0");
    }

    @Says("no LETTER; next (with no BARRELS, too)")
    static void nightBehind() {
        Edges.on("r1 1 0 0 1;r1 1 0 0 1;r1 1 0 0 1;", "pays(); now(3)=0; nights(0)=0; now(3)=NONE; now(0)=2; now(5)=10");
        Edges.on("r1 1 0 10 1;r1 1 0 10 1;", "pays(); nights(0)=5; now(3)=NONE; now(0)=2");
        Edges.on("r9 1 0 10 30;r9 1 0 10 30;r9 1 0 10 30;", "sells(10, 0); nights(0)=0; now(0)=1; now(1)=0; now(4)=0;"
            + "lands()=0; now(0)=2; pays()=0; now(0)=3");
    }

    @Says("SOLD: n (1 .. 30) BARRELS for p (0 .. 30) COINS each")
    static void sold() {
        Edges.on("b30;c0;", "sells(0, 1)=BAD; sells(-1, 1)=BAD; sells(31, 1)=BAD; sells(1, -1)=BAD; sells(1, 31)=BAD; now(1)=30;"
            + "sells(1, 0)=0; now(1)=29; sells(1, 30)=30; now(1)=28; now(2)=30; sells(28, 1)=58; now(1)=0");
        Edges.on("b30;c0;", "sells(30, 30)=900; now(1)=0; sells(1, 0)=STATE");
        Edges.on("b30;c0;", "sells(30, 0)=0; now(1)=0");
        Edges.on("b29;c0;", "sells(30, 0)=STATE; sells(29, 0)=0");
        Edges.on("b2;", "sells(3, 1)=STATE; now(2)=100; sells(2, 1)=102; now(1)=0");
    }

    /** As many COINS as a run can have are far below: no call is refused for them. */
    @Says("999999 COINS at most")
    static void mostCoins() {
        Edges.on("b30;c900;", "sells(30, 30)=1800; now(2)=1800");
        Edges.on("b30;c900;", "sells(10, 30)=1200; keep(0); sells(20, 30)=1800; back(0); now(2)=1200; sells(20, 30)=1800");
    }

    @Says("SET: a TOLL. BROKEN: a ROCK, for good")
    static void forGood() {
        Edges.on(Edges.rocks(2), "breaks(1)=1; breaks(1)=STATE; sets(1, 9)=1; rock(1, 0)=9; rock(1, 5)=1; takes(1, 30)=0; breaks(1)=STATE");
        Edges.on(Edges.rocks(8), rangeClosed(0, 7).mapToObj(r -> "breaks(" + r + ")=" + (r + 1)).collect(joining(";"))
            + "; breaks(7)=STATE; breaks(8)=BAD; way(-1)=0");
    }

    @Says("GOT by a LORD: all that was PAID to him")
    static void got() {
        Edges.on("r1 1 3 0 1;r1 1 3 0 1;r1 1 3 0 1;r1 1 0 0 1;r1 1 1 0 1;", "pays(); got(3)=10; pays(); got(3)=10; pays(); got(3)=20;"
            + "pays(); got(0)=10; lands(); got(1)=0; got(2)=0; got(3)=20");
    }

    @Says("UNDONE: the latest pays(), lands(), nights(), sells(), sets(), breaks() that was not refused (10 are known, older ones are lost)")
    static void tenAreKnown() {
        String sets = rangeClosed(1, 9).mapToObj(t -> "sets(0, " + t + "); now(6)=" + t).collect(joining(";"));
        String ten = sets + "; sells(1, 0); now(6)=10;";
        String undone = rangeClosed(0, 9).mapToObj(n -> "undo()=" + (9 - n)).collect(joining(";"));
        Edges.on("r0 1 0 0 1;", ten + undone + "; rock(0, 0)=0; now(1)=10; undo()=STATE; now(6)=0");
        Edges.on("r0 1 0 0 1;", ten + "sets(0, 0); now(6)=10;" + undone + "; rock(0, 0)=1; undo()=STATE");
        Edges.on("r0 1 0 0 1;", ten + "sets(0, 0); sells(1, 0); now(6)=10;" + undone + "; rock(0, 0)=2; now(1)=10; undo()=STATE");
    }

    @Says("int undo()`: UNDONE: how many more may be. STATE: none")
    static void undo() {
        Edges.on("", "undo()=STATE; sells(1, 5); undo()=0; now(1)=10; now(2)=100; undo()=STATE");
        Edges.on("c10;" + Edges.rocks(2), "pays(); undo()=0; now(0)=0; now(2)=10; now(3)=NONE; got(0)=0; pays()=10");
        Edges.on("c10;" + Edges.rocks(2), "pays(); pays(); undo()=1; now(0)=1; now(2)=0; now(3)=0; got(0)=10; pays()=0");
        Edges.on(Edges.rocks(2), "pays(); lands(); undo()=1; now(0)=1; now(2)=90; now(3)=0");
        Edges.on("r1 1 0 10 1;", "nights(0)=5; undo()=0; now(0)=0; now(1)=10; now(4)=0");
        Edges.on("r5 1 0 10 1;", "sets(0, 9)=5; undo()=0; rock(0, 0)=5; breaks(0)=1; undo()=0; rock(0, 5)=0; takes(0, 1)=5");
        Edges.on("r5 1 0 10 1;", "sets(0, 5)=5; now(6)=1; undo()=0");
        Edges.on(Edges.rocks(1), "keep(0); left(0, 5); type(114); clear(); rate(0, 0); forget(); way(-1); undo()=STATE");
        Edges.on("c0;" + Edges.rocks(1), "sets(0, 2); pays()=STATE; lands()=STATE; nights(-1)=BAD; sells(11, 0)=STATE; sets(0, 10)=BAD;"
            + "breaks(1)=BAD; now(6)=1; undo()=0; rock(0, 0)=1");
    }

    /** The rows of what may be undone are gone around more than once. */
    @Says("6 how many may be UNDONE")
    static void manyDeeds() {
        String deeds = rangeClosed(0, 24).mapToObj(n -> "sets(0, " + n % 10 + ")").collect(joining(";"));
        Run run = Edges.on("r7 1 0 0 1;", "now(6)=0;" + deeds + "; now(6)=10; undo()=9; undo()=8; undo()=7; rock(0, 0)=1; now(6)=7");
        Edges.goOn(run, "sells(1, 0); now(6)=8; sells(1, 0); now(6)=9; sells(1, 0); now(6)=10; sells(1, 0); now(6)=10");
        Edges.goOn(run, "undo()=9; undo()=8; undo()=7; undo()=6; now(1)=10; rock(0, 0)=1; undo()=5; rock(0, 0)=0; undo()=4; rock(0, 0)=9");
        Edges.goOn(run, "undo()=3; rock(0, 0)=8; undo()=2; undo()=1; undo()=0; rock(0, 0)=5; undo()=STATE; rock(0, 0)=5");
    }
}
