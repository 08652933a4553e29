import static java.util.stream.Collectors.joining;
import static java.util.stream.IntStream.rangeClosed;

import java.util.List;

/** The edges of the document's Terms, 4: kinds, images, reading anew. */
final class KindEdges {
    /** A deed of each kind, behind which all that an image keeps is other than at first; two more rocks are left. */
    private static final String DEEDS = "pays()=10; nights(8)=5; sells(1, 30)=120; sets(3, 7)=1; breaks(4)=1; pays()=4;";
    private static final String BEHIND = "now(0)=3; now(1)=4; now(2)=116; now(3)=2; now(4)=5; rock(3, 0)=7; rock(4, 5)=1; got(0)=10; got(2)=4;";
    private static final String FIVE = "r1 1 0 0 1;r1 1 1 10 1;r1 1 2 0 1;r1 1 2 0 1;r1 1 3 0 1;";

    private KindEdges() {
    }

    @Says("KINDS of ROCKS are over one another: 0 ROCK; 1 CHAIN, 2 TOWER, 5 BEND (each under ROCK); 3 BRIDGE (under CHAIN); 4 ISLE (under TOWER)")
    static void kinds() {
        Edges.on("r2 1 0 3 5;", "rate(-1, 0)=NO; rate(0, 0)=2; rate(1, 0)=5; rate(2, 0)=-3; rate(3, 0)=10; rate(4, 0)=-3; rate(5, 0)=12; rate(6, 0)=NO");
    }

    @Says("ROCK its TOLL (1). CHAIN up, and its WATCH (10). TOWER up less its LAND (100). BRIDGE twice up (1000). ISLE up, and its number (10000)."
        + " BEND up, and BARRELS (100000)")
    static void bodies() {
        Edges.on("b30;r0 1 0 0 30;", "rate(0, 0)=0; rate(1, 0)=0; rate(2, 0)=-30; rate(3, 0)=0; rate(4, 0)=-30; rate(5, 0)=30");
        Edges.on("b30;r9 1 0 10 0;", "rate(0, 0)=9; rate(1, 0)=19; rate(2, 0)=9; rate(3, 0)=38; rate(4, 0)=9; rate(5, 0)=39; sells(30, 0); rate(5, 0)=9");
        Edges.on(Edges.rocks(8), "rate(4, 7)=7; rate(4, 0)=0; rate(4, 8)=NO; rate(4, -1)=NO; breaks(7); rate(0, 7)=1; sets(7, 0); rate(0, 7)=0");
    }

    @Says("RATE of a ROCK as if of a KIND (numbers in brackets are added to THE TRACE, 0 at first, as often as rate() asks that body: each once;"
        + " \"up\" is what the KIND above does)")
    static void traceNumbers() {
        Edges.on(Edges.rocks(1), "trace()=0; rate(0, 0); trace()=1; rate(1, 0); trace()=12; rate(2, 0); trace()=113; rate(3, 0); trace()=1124;"
            + "rate(4, 0); trace()=11225; rate(5, 0); trace()=111226");
        Edges.on(Edges.rocks(1), "rate(3, 0); trace()=1011; rate(3, 0); trace()=2022");
        Edges.on(Edges.rocks(1), "rate(-1, 0); rate(6, 0); rate(0, 1); rate(0, -1); trace()=0");
    }

    /** So many calls as an object has, each of the dearest kind. */
    @Says("long trace()`: THE TRACE.")
    static void longTrace() {
        Run run = Edges.on(Edges.rocks(1), "rate(5, 0);".repeat(499) + "trace()=49900499");
        Edges.due(run, "how many calls", run.calls(), 512);
    }

    @Says("IMAGES 0, 1 keep NOW (AT, BARRELS, COINS, LETTER, TOLLS, what is BROKEN, SEIZED, GOT)")
    static void images() {
        String undone = "undo();".repeat(6) + "now(0)=0; now(1)=10; now(4)=0; got(0)=0; rock(3, 0)=1; rock(4, 5)=0;";
        Edges.on(FIVE, "keep(-1)=BAD; keep(2)=BAD; back(-1)=BAD; back(2)=BAD; keep(0)=0; keep(1)=0");
        Edges.on(FIVE, DEEDS + BEHIND + "keep(0)=3;" + undone + "back(1)=STATE; back(0)=3;" + BEHIND);
        Edges.on(FIVE, DEEDS + BEHIND + "keep(1)=3;" + undone + "back(0)=STATE; back(1)=3;" + BEHIND);
        Edges.on(FIVE, "keep(1)=0; " + DEEDS + "keep(0)=3; back(1)=0; now(0)=0; now(1)=10; now(2)=100; now(3)=NONE; now(4)=0; rock(3, 0)=1;"
            + "rock(4, 5)=0; got(0)=0; got(2)=0; back(0)=3;" + BEHIND + "keep(1)=3; back(1)=3;" + BEHIND);
        Edges.on(Edges.rocks(2), "keep(0)=0; pays(); pays(); keep(0)=2; back(0)=2; now(0)=2");
    }

    /** What comes behind keep() does not come into the image. */
    @Says("`int keep(int image)`: An IMAGE is kept: AT. BAD.")
    static void apart() {
        Edges.on(FIVE, DEEDS + "keep(0)=3; sets(3, 1); breaks(3); pays()=0; sells(4, 1); back(0)=3;" + BEHIND
            + "sets(0, 0); breaks(0); pays()=0; back(0)=3;" + BEHIND + "rock(0, 0)=1; rock(0, 5)=0; keep(-1)=BAD; keep(2)=BAD");
    }

    @Says("nothing else (nothing can be UNDONE behind back())")
    static void nothingElse() {
        Edges.on(FIVE, "pays(); keep(0); now(6)=1; pays(); now(6)=2; back(0)=1; now(6)=0; undo()=STATE; now(0)=1; pays()=10; now(6)=1; undo()=0; now(0)=1");
        Edges.on(FIVE, "pays(); back(0)=STATE; back(2)=BAD; now(6)=1; keep(0); undo()=0; back(0)=1; undo()=STATE");
        Edges.on(FIVE, "left(1, 90); type(98); rate(0, 0); keep(0); left(1, 90); type(53); type(59); rate(0, 0); back(0)=0; count(1)=2; count(2)=3;"
            + "trace()=2; took()=286; river()=1; now(1)=5");
        Edges.on(FIVE, "keep(0); left(1, 90); type(98); back(0); count(1)=1; count(2)=1; forget(); back(0); count(1)=0; clear(); back(0); count(2)=0");
        String tenSets = rangeClosed(0, 9).mapToObj(t -> "sets(0, " + t + ")").collect(joining(";"));
        Edges.on(FIVE, "keep(0);" + tenSets + "; now(6)=10; back(0); now(6)=0; rock(0, 0)=1; sets(0, 4)=1; now(6)=1; undo()=0; undo()=STATE");
    }

    @Says("(Read anew: as told, at ROCK 0, nothing GOT, nothing LEFT, IMAGES are gone.)")
    static void readAnew() {
        Run run = Edges.on(FIVE, DEEDS + BEHIND + "keep(0); keep(1); left(1, 1); left(2, 2); rate(0, 0); now(6)=6");
        run.type("r2 3 1 4 5;");
        Edges.goOn(run, "river()=1; count(0)=1; count(1)=0; count(2)=0; now(0)=0; now(1)=10; now(2)=100; now(3)=NONE; now(4)=0; now(5)=8; now(6)=0;"
            + "got(0)=0; got(1)=0; got(2)=0; got(3)=0; back(0)=STATE; back(1)=STATE; undo()=STATE; forget()=0; rock(0, 0)=2; rock(0, 1)=3;"
            + "rock(0, 2)=1; rock(0, 3)=4; rock(0, 4)=5; rock(0, 5)=0; rock(1, 0)=BAD; trace()=1");
        Run none = Edges.on(FIVE, DEEDS + "keep(0); river()=0; count(0)=0; now(0)=0; now(1)=10; now(2)=100; now(5)=NONE; back(0)=STATE; rock(0, 0)=BAD");
        none.type(FIVE);
        Edges.goOn(none, "river()=5; rock(3, 0)=1; rock(4, 5)=0; now(6)=0; way(0)=0");
    }

    /** Of a longer river that was told, gone and asked, nothing is left in the answers to a shorter one. */
    @Says("THE TEXT tells all anew")
    static void asNew() {
        String eight = "r9 1 3 10 30;r9 1 3 10 30;r8 2 2 9 29;r7 1 1 10 28;r7 1 1 10 28;r6 1 0 10 27;r9 1 0 9 30;r9 1 3 10 30;";
        String gone = "breaks(1); way(-1); took(); two(1); pays(); pays(); pays(); pays(); pays(); nights(8); sets(0, 1); breaks(0); keep(0); keep(1);"
            + "left(0, 1); left(1, 2); way(-1)";
        String[] rocks = {"r3 2 3 5 2;", "r4 3 3 0 9;", "r1 1 1 9 3;", "r9 5 1 3 1;", "r2 4 2 0 4;", "r5 1 2 1 6;", "r4 2 0 2 7;"};
        for (int n = 0; n <= rocks.length; n++) {
            String shorter = String.join("", List.of(rocks).subList(0, n));
            Run run = Edges.on("b9;c900;" + eight, gone).type(shorter);
            Edges.goOn(run, "river()=" + n);
            boolean isAlike = Edges.answers(run, Edges.asks()).equals(Edges.answers(Run.of(shorter), Edges.asks()));
            Edges.due(run, "as one that is new", isAlike ? 1 : 0, 1);
            Edges.goOn(run, "undo()=STATE; back(0)=STATE; back(1)=STATE; forget()=0");
        }
    }

    @Says("-10 less FAULT: nothing changes")
    static void faultChangesNothing() {
        Run run = Edges.on(FIVE, DEEDS + "keep(0); left(0, 116)");
        run.type("b9;c9;r9 1 0 0 0;!");
        Edges.goOn(run, "river()=-27; count(0)=5; count(1)=1; count(2)=18; river()=-27; took()=280; now(6)=6;" + BEHIND + "clear()=18; river()=0");
        Run early = Edges.on(FIVE, DEEDS).type("b9");
        Edges.goOn(early, "river()=-12;" + BEHIND + "type(59)=3; river()=1; now(1)=9; count(0)=0");
    }
}
