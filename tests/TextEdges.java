import static java.util.stream.Collectors.joining;
import static java.util.stream.IntStream.rangeClosed;

/** The edges of the document's Terms, 1: rocks, the boat, the text. */
final class TextEdges {
    private static final String WHOLE = "r9 5 3 10 30;";

    private TextEdges() {
    }

    @Says("An object is used for at most 512 calls after it has been made; what later calls answer is free.")
    static void calls() {
        Run run = Run.of("b30;c900;" + Edges.rocks(8));
        for (int i = 0; i < 204; i++) Edges.goOn(run, "sets(7, " + i % 10 + ")=1; undo()=0");
        Edges.goOn(run, "pays()=30; now(2)=870; count(0)=8; way(-1)=90; now(6)=1; now(0)=1");
        Edges.due(run, "how many calls", run.calls(), 512);
    }

    @Says("ROCKS 0 .. (8 at most), one behind the other")
    static void rocks() {
        Edges.on("", "count(0)=0; rock(-1, 0)=BAD; rock(0, 0)=BAD");
        Edges.on("b5;", "count(0)=0; rock(-1, 0)=BAD; rock(0, 0)=BAD");
        Edges.on(Edges.rocks(1), "count(0)=1; rock(-1, 0)=BAD; rock(0, 0)=1; rock(1, 0)=BAD");
        Edges.on(Edges.rocks(7), "count(0)=7; rock(6, 0)=1; rock(7, 0)=BAD");
        Edges.on(Edges.rocks(8), "count(0)=8; rock(-1, 0)=BAD; rock(7, 0)=1; rock(8, 0)=BAD");
        Edges.faults(Edges.rocks(9), 88);
        String row = rangeClosed(0, 7).mapToObj(t -> "r" + t + " 1 0 0 0;").collect(joining());
        Edges.on(row, rangeClosed(0, 7).mapToObj(t -> "rock(" + t + ", 0)=" + t).collect(joining(";")));
    }

    @Says("one behind the other: TOLL (0 .. 9)")
    static void toll() {
        Edges.on("r0 1 0 0 0;", "rock(0, 0)=0");
        Edges.on("r9 1 0 0 0;", "rock(0, 0)=9");
        Edges.faults("r10 1 0 0 0;", 1);
        Edges.faults("r-1 1 0 0 0;", 1);
    }

    @Says("MEASURE (1 .. 5)")
    static void measure() {
        Edges.on("r0 1 0 0 0;", "rock(0, 1)=1");
        Edges.on("r0 5 0 0 0;", "rock(0, 1)=5");
        Edges.faults("r0 0 0 0 0;", 3);
        Edges.faults("r0 6 0 0 0;", 3);
    }

    @Says("MEASURE (1 .. 5), LORD (0 .. 3)")
    static void lord() {
        Edges.on("r0 1 0 0 0;", "rock(0, 2)=0");
        Edges.on("r0 1 3 0 0;", "rock(0, 2)=3");
        Edges.faults("r0 1 4 0 0;", 5);
        Edges.faults("r0 1 -1 0 0;", 5);
    }

    @Says("WATCH (0 .. 10)")
    static void watch() {
        Edges.on("r0 1 0 0 0;", "rock(0, 3)=0");
        Edges.on("r0 1 0 10 0;", "rock(0, 3)=10");
        Edges.faults("r0 1 0 11 0;", 7);
        Edges.faults("r0 1 0 -1 0;", 7);
    }

    @Says("LAND (0 .. 30 for each BARREL)")
    static void land() {
        Edges.on("r0 1 0 0 0;", "rock(0, 4)=0; lands()=0");
        Edges.on("c900;b30;r0 1 0 0 30;", "rock(0, 4)=30; lands()=900");
        Edges.on("b1;r0 1 0 0 30;", "lands()=30");
        Edges.faults("r0 1 0 0 31;", 9);
        Edges.faults("r0 1 0 0 -1;", 9);
    }

    @Says("The BOAT: BARRELS (1 .. 30; 10 at first)")
    static void barrels() {
        Edges.on("", "now(1)=10");
        Edges.on("c5;", "now(1)=10");
        Edges.on("b1;", "now(1)=1");
        Edges.on("b30;", "now(1)=30");
        Edges.faults("b0;", 1);
        Edges.faults("b31;", 1);
        Edges.faults("b-1;", 1);
        Run anew = Edges.on("b7;", "now(1)=7");
        Edges.goOn(anew.type("c5;"), "river()=1; now(1)=10");
    }

    @Says("COINS (0 .. 900; 100 at first)")
    static void coins() {
        Edges.on("", "now(2)=100");
        Edges.on("b5;", "now(2)=100");
        Edges.on("c0;", "now(2)=0");
        Edges.on("c900;", "now(2)=900");
        Edges.faults("c901;", 1);
        Edges.faults("c-1;", 1);
        Run anew = Edges.on("c7;", "now(2)=7");
        Edges.goOn(anew.type("b5;"), "river()=1; now(2)=100");
    }

    @Says("They are a text (200 letters at most)")
    static void letters() {
        String row = rangeClosed(1, 200).mapToObj(n -> "type(32)=" + n).collect(joining(";"));
        Edges.on("", row + "; type(32)=FULL; type(59)=FULL; count(2)=200; river()=0; count(2)=0; type(32)=1");
        Edges.on("", row + "; type(32)=FULL; clear()=200; type(32)=1; count(2)=1");
        Edges.reads("b5;" + " ".repeat(197), 1);
        Edges.reads(" ".repeat(197) + "b5;", 1);
        Edges.reads(" ".repeat(197) + "b5;b", 1);
        Edges.faults(" ".repeat(199) + "x", 199);
        Edges.faults(" ".repeat(199) + "b", 200);
        Edges.faults(" ".repeat(198) + "b5", 200);
    }

    @Says("told letter by letter, blanks (32) between TOKENS")
    static void blanks() {
        Edges.reads("b5;c900;r9 5 3 10 30;", 3);
        Edges.reads("   b  5  ;  c   900 ; r   9  5  3  10  30  ;   ", 3);
        Edges.reads(" ", 0);
        for (int letter : new int[] {0, 9, 10, 13, 31, 33, 95, 127, 160, 255}) {
            Edges.faults((char) letter + "b5;", 0);
            Edges.faults("b" + (char) letter + "5;", 1);
            Edges.faults("b5;" + (char) letter, 3);
        }
        Edges.faults("b 1 0;", 4);
        Edges.on("r1 2 3 4 5;", "rock(0, 0)=1; rock(0, 1)=2; rock(0, 2)=3; rock(0, 3)=4; rock(0, 4)=5");
        Edges.faults("r12 3 4 5;", 1);
    }

    @Says("ITEMS, each ended by ;")
    static void ends() {
        Edges.reads("b5;", 1);
        Edges.reads("b5;c5;", 2);
        Edges.faults("b5", 2);
        Edges.faults("b5:", 2);
        Edges.faults("b5<", 2);
        Edges.faults("b5 c5;", 3);
        Edges.faults("b5 5;", 3);
        Edges.faults("b5;;", 3);
        Edges.faults(";", 0);
        Edges.faults("r1 1 1 1 1 1;", 11);
        Edges.faults("r1 1 1 1 1r", 10);
    }

    @Says("r T M L W G (a ROCK: TOLL, MEASURE, LORD, WATCH, LAND)")
    static void rockItem() {
        Edges.on(WHOLE, "rock(0, 0)=9; rock(0, 1)=5; rock(0, 2)=3; rock(0, 3)=10; rock(0, 4)=30; rock(0, 5)=0");
        Edges.faults("r;", 1);
        Edges.faults("r9;", 2);
        Edges.faults("r9 5;", 4);
        Edges.faults("r9 5 3;", 6);
        Edges.faults("r9 5 3 10;", 9);
        Edges.faults("r9 5 3 10 30 1;", 13);
    }

    @Says("b N (BARRELS), c N (COINS; once at most each)")
    static void once() {
        Edges.reads("", 0);
        Edges.reads("b1;", 1);
        Edges.reads("c1;", 1);
        Edges.reads("b1;c1;", 2);
        Edges.reads("c1;b1;", 2);
        Edges.reads(Edges.rocks(8) + "b1;c1;", 10);
        Edges.faults("b1;b1;", 3);
        Edges.faults("c1;c1;", 3);
        Edges.faults("b1;c1;b1;", 6);
        Edges.faults("c1;b1;c1;", 6);
        Edges.faults("b;", 1);
        Edges.faults("c;", 1);
        Edges.faults("b1 1;", 3);
    }

    @Says("TOKENS are the letters r, b, c, NUMBERS and ;")
    static void tokens() {
        for (char letter : "adqsRBC/:<;0123456789".toCharArray()) {
            Edges.faults(letter + "5;", 0);
        }
        for (char letter : "adqsRBC/:<rbc".toCharArray()) {
            Edges.faults("b" + letter + ";", 1);
            Edges.faults("b5" + letter, 2);
        }
    }

    @Says("FAULT: the place of the first letter of the first TOKEN that can't stand there")
    static void faultPlace() {
        Edges.faults("b99;x", 1);
        Edges.faults("b  99;", 3);
        Edges.faults("b5;99 x;", 3);
        Edges.faults("b5; 99", 4);
        Edges.faults("b b5;", 2);
        Edges.faults("5", 0);
        Edges.faults("   ;", 3);
        Edges.faults("r1 1 900 1 1;", 5);
    }

    @Says("(a ninth r, b, c again, a NUMBER beyond what it may be, too)")
    static void tooMany() {
        Edges.faults(Edges.rocks(8) + "r", 88);
        Edges.faults(Edges.rocks(8) + "b1; r1 1 0 0 1;", 92);
        Edges.faults("b1;b", 3);
        Edges.faults("c1;c", 3);
        Edges.faults("b31", 1);
        Edges.faults("b0", 1);
        Edges.faults("r1 0", 3);
        Edges.faults("r1 1 900", 5);
    }

    @Says("of any other letter, a NUMBER above 900 or with a 0 ahead of others, that TOKEN's")
    static void wrongTokens() {
        Edges.faults("x", 0);
        Edges.faults("b5;x5;", 3);
        Edges.faults("b5x;", 2);
        Edges.reads("c900;", 1);
        Edges.faults("c901;", 1);
        Edges.faults("c1000;", 1);
        Edges.faults("c 9000000000;", 2);
        Edges.faults("c" + (1L << 32) + ";", 1);
        Edges.faults("c18446744073709551621;", 1);
        Edges.faults("901;", 0);
        Edges.faults("b1 901;", 3);
        Edges.reads("c0;", 1);
        Edges.faults("c00;", 1);
        Edges.faults("c05;", 1);
        Edges.faults("c0900;", 1);
        Edges.reads("c10;", 1);
        Edges.faults("b5 05", 3);
        Edges.faults("r1 01 1 1 1;", 3);
        Edges.on("c100;", "now(2)=100");
    }

    @Says("the text's length, if it ends too early")
    static void tooEarly() {
        Edges.reads("", 0);
        for (int end = 1; end < WHOLE.length(); end++) {
            Edges.faults(WHOLE.substring(0, end), end);
            Edges.faults(WHOLE.substring(0, end) + "  ", end + 2);
        }
        Edges.faults("b", 1);
        Edges.faults("b30", 3);
        Edges.faults("c", 1);
        Edges.faults("c900", 4);
        Edges.faults("b30;c900 ", 9);
        Edges.reads(WHOLE, 1);
    }
}
