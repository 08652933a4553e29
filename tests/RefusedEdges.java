import java.util.ArrayList;
import java.util.LinkedHashMap;
import java.util.List;
import java.util.Map;

/** What is refused changes nothing, nor does what is only asked: two objects with the same calls, one of them with one more, answer alike. */
final class RefusedEdges {
    private static final String REFUSED = "Refused, and nothing changes, the first of these: BAD (a number is not as told, or there is no such thing),"
        + " STATE (as told), FULL.";
    private static final String BAD_CALLS = "type(-1); type(256); rock(-1, 0); rock(8, 0); rock(0, -1); rock(0, 6); takes(-1, 0); takes(8, 0);"
        + "takes(0, -1); takes(0, 31); now(-1); now(7); got(-1); got(4); nights(-1); nights(10000); sells(0, 0); sells(31, 0); sells(1, -1);"
        + "sells(1, 31); sets(-1, 0); sets(8, 0); sets(0, -1); sets(0, 10); breaks(-1); breaks(8); way(-2); way(8); toBreak(-1);"
        + "toBreak(10000); byLord(-1); byLord(4); most(-1, 0); most(8, 0); most(0, -1); most(0, 2); cheap(-1, 0); cheap(8, 0); cheap(0, -1);"
        + "cheap(0, 3); two(-1); two(2); left(-1, 0); left(9, 0); left(0, -1); left(0, 901); odds(-1, 0); odds(256, 0); odds(0, -1);"
        + "odds(0, 2); keep(-1); keep(2); back(-1); back(2); count(-1); count(3)";
    private static final String NO_CALLS = "rate(-1, 0); rate(6, 0); rate(0, -1); rate(0, 8)";

    private static final String RIVER = "b30;c900;r3 2 0 5 2;r4 3 0 0 9;r1 1 1 10 3;r9 5 1 3 1;r2 4 2 0 0;r1 1 3 2 1;r5 2 2 4 2;r6 3 0 1 4;";
    private static final String DEEDS = "pays(); pays(); keep(0); nights(8); sells(2, 5); sets(4, 9); keep(1); breaks(6); pays();"
        + "left(1, 800); left(0, 850); rate(3, 1)";
    private static final Map<String, Setting> SETTINGS = settings();
    private static final List<String> PROBES = probes();

    /** How an object comes to where the calls are refused. */
    private record Setting(String text, String calls, String nextText) {
        Run run() {
            return Run.of(text).then(calls).type(nextText);
        }
    }

    private RefusedEdges() {
    }

    private static Map<String, Setting> settings() {
        Map<String, Setting> all = new LinkedHashMap<>();
        all.put("new", new Setting("", "", ""));
        all.put("on the way", new Setting(RIVER, DEEDS, "c77;b9;"));
        all.put("a fault", new Setting(RIVER, DEEDS, "c77;b9;r1 1;"));
        all.put("too early", new Setting(RIVER, DEEDS, "c77;b9;r1 1"));
        all.put("poor", new Setting("b4;c2;r1 1 0 0 1;r9 1 0 0 30;", "keep(1); left(1, 1); sells(1, 0); sells(1, 0); undo()", "b7;"));
        all.put("at THE SEA", new Setting("r2 1 0 9 1;r3 1 1 0 1;", "keep(0); pays(); left(0, 50); nights(1); sells(10, 0)", "c5;"));
        all.put("full", new Setting(Edges.rocks(1), "left(1, 90);".repeat(6) + "sets(0, 2);".repeat(12), "b4;" + " ".repeat(197)));
        return all;
    }

    /** What an object is asked behind the call: all asks; then, on others, what is held for later. */
    private static List<String> probes() {
        String look = Edges.forEach("now(#)", 0, 6) + Edges.forEach("got(#)", 0, 3) + Edges.forEach("rock(#, 0)", 0, 7) + Edges.forEach("rock(#, 5)", 0, 7);
        List<String> all = new ArrayList<>();
        all.add(Edges.asks());
        all.add(("undo();" + look).repeat(9) + "undo(); undo(); rock(0, 0)");
        all.add("back(0);" + look + "undo(); back(1);" + look);
        all.add("river();" + look + "clear(); river();" + look);
        all.add("clear(); forget(); left(0, 1); keep(0); pays(); undo(); rate(0, 0); trace();");
        return all;
    }

    /** In a setting, the calls answer what is due, and none of them changes anything. */
    private static void changeNothing(String name, String calls, Long want) {
        Setting setting = SETTINGS.get(name);
        for (String probe : PROBES) {
            List<Long> due = Edges.answers(setting.run(), probe);
            for (String call : calls.split(";")) {
                Run run = setting.run();
                long got = run.ask(call.trim());
                if (want != null) Edges.due(name, call, got, want);
                Edges.due(name, call + " changes what is then answered to " + probe, Edges.answers(run, probe).equals(due) ? 0 : 1, 0);
            }
        }
    }

    @Says(REFUSED)
    static void bad() {
        for (String name : SETTINGS.keySet()) {
            changeNothing(name, BAD_CALLS, -1L);
            changeNothing(name, NO_CALLS, -1000000L);
        }
    }

    @Says(REFUSED)
    static void state() {
        changeNothing("new", "pays(); lands(); nights(0); sells(11, 0); undo(); back(0); back(1)", -2L);
        changeNothing("on the way", "sells(14, 1); breaks(6)", -2L);
        changeNothing("poor", "pays(); lands(); sells(4, 0); back(0)", -2L);
        changeNothing("at THE SEA", "pays(); lands(); nights(0); nights(9999); sells(1, 30); back(1)", -2L);
    }

    @Says(REFUSED)
    static void full() {
        changeNothing("full", "type(0); type(32); type(255); left(0, 0); left(8, 900)", -3L);
    }

    @Says("-10 less FAULT: nothing changes")
    static void fault() {
        changeNothing("a fault", "river()", -10L - 11);
        changeNothing("too early", "river()", -10L - 11);
    }

    /** None of a call's refusals is told if one that is named ahead of it holds, too. */
    @Says(REFUSED)
    static void order() {
        Edges.on("", "nights(-1)=BAD; nights(10000)=BAD; sells(31, 0)=BAD; sells(11, 31)=BAD; sells(11, -1)=BAD; back(2)=BAD; back(-1)=BAD");
        Edges.on("b1;" + Edges.rocks(1), "breaks(0)=1; breaks(1)=BAD; most(0, 2)=BAD; sells(1, 0); two(2)=BAD; pays(); most(0, -1)=BAD; nights(-1)=BAD");
        Run full = SETTINGS.get("full").run();
        Edges.goOn(full, "type(256)=BAD; type(-1)=BAD; left(9, 0)=BAD; left(0, 901)=BAD; left(-1, 0)=BAD; left(0, -1)=BAD; type(0)=FULL; left(0, 0)=FULL");
    }

    @Says("(As things are NOW; nothing is changed.)")
    static void asksChangeNothing() {
        for (String name : SETTINGS.keySet()) changeNothing(name, Edges.asks(), null);
    }
}
