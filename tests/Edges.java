import java.util.ArrayList;
import java.util.List;
import java.util.Map;

/** What the tests of the document's edges share: scripts of calls with the answers that are due. */
final class Edges {
    private static final Map<String, Long> NAMES = Map.of("BAD", -1L, "STATE", -2L, "FULL", -3L, "NONE", -9L, "NO", -1000000L);

    static int checks;
    static int wrong;
    /** The test that goes on. */
    static String test = "";

    private Edges() {
    }

    /** r1 1 0 0 1; so many times: 11 letters each. */
    static String rocks(int n) {
        return "r1 1 0 0 1;".repeat(n);
    }

    static void due(Object run, String call, long got, long want) {
        checks++;
        if (got == want) return;
        wrong++;
        System.out.println(test + ": behind " + run + ": " + call + " answered " + got + ", due is " + want);
    }

    /** The script's calls on a new object that was told the text: now(0)=1; pays(); pays()=STATE. */
    static Run on(String text, String script) {
        return goOn(Run.of(text), script);
    }

    static Run goOn(Run run, String script) {
        for (String step : script.split(";")) {
            if (step.isBlank()) continue;
            String[] sides = step.trim().split("=");
            String behind = run.toString();
            long got = run.ask(sides[0].trim());
            if (sides.length > 1) due(behind, sides[0], got, number(sides[1].trim()));
        }
        return run;
    }

    private static long number(String word) {
        return NAMES.containsKey(word) ? NAMES.get(word) : Long.parseLong(word);
    }

    /** A text with so many items and no fault. */
    static void reads(String text, int items) {
        due("a new object", "river() of \"" + text + "\"", new Run().type(text).ask("river()"), items);
    }

    /** A text with its first fault at a place. */
    static void faults(String text, int place) {
        due("a new object", "river() of \"" + text + "\"", new Run().type(text).ask("river()"), -10 - place);
    }

    /** A call with # for its number, for each number from least to most. */
    static String forEach(String call, int least, int most) {
        StringBuilder s = new StringBuilder();
        for (int i = least; i <= most; i++) s.append(call.replace("#", "" + i)).append(';');
        return s.toString();
    }

    /** Every call that asks and changes nothing. */
    static String asks() {
        StringBuilder s = new StringBuilder(forEach("now(#)", 0, 6) + forEach("got(#)", 0, 3));
        for (int what = 0; what < 6; what++) s.append(forEach("rock(#, " + what + ")", 0, 7));
        s.append(forEach("takes(#, 30)", 0, 7)).append(forEach("takes(#, 7)", 0, 7)).append(forEach("way(#)", -1, 7));
        s.append("enough(); toBreak(0); toBreak(10); toBreak(50); toBreak(9999);").append(forEach("byLord(#)", 0, 3));
        for (int what = 0; what < 2; what++) s.append(forEach("most(#, " + what + ")", 0, 7));
        for (int what = 0; what < 3; what++) s.append(forEach("cheap(#, " + what + ")", 0, 7));
        s.append("still(); two(0); two(1); one(); took(); odds(255, 0); odds(255, 1); odds(1, 0); count(0); count(1); count(2); trace();");
        return s.toString();
    }

    static List<Long> answers(Run run, String script) {
        List<Long> answers = new ArrayList<>();
        for (String call : script.split(";")) answers.add(run.ask(call.trim()));
        return answers;
    }
}
