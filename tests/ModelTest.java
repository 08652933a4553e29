import java.util.ArrayList;
import java.util.List;

/** Long runs of calls, chosen by a fixed row of numbers, on RiverTolls and on Model: all answers are alike. */
public final class ModelTest {
    private static final int RUNS = 3000;
    private static final int CALLS = 512;

    private static long seed;

    /** 0 .. below - 1 */
    private static int pick(int below) {
        seed = seed * 6364136223846793005L + 1442695040888963407L;
        return (int) ((seed >>> 33) % below);
    }

    /** A number from least to most, now and then one beyond. */
    private static int about(int least, int most) {
        int dice = pick(24);
        if (dice == 0) return least - 1 - pick(2);
        if (dice == 1) return most + 1 + pick(2);
        if (dice == 2) return least;
        if (dice == 3) return most;
        if (dice == 4 && pick(10) == 0) return pick(2) == 0 ? Integer.MIN_VALUE : Integer.MAX_VALUE;
        return least + pick(most - least + 1);
    }

    private static String goodText() {
        StringBuilder s = new StringBuilder();
        int rocks = pick(4) == 0 ? pick(9) : 3 + pick(6);
        int lords = 1 + pick(4);
        int lands = 1 + pick(pick(2) == 0 ? 6 : 31);
        List<String> items = new ArrayList<>();
        for (int r = 0; r < rocks; r++) {
            items.add("r" + pick(10) + " " + (1 + pick(5)) + " " + pick(lords) + " " + pick(11) + " " + pick(lands) + ";");
        }
        if (pick(3) > 0) items.add(pick(items.size() + 1), "b" + (1 + pick(30)) + ";");
        if (pick(3) > 0) items.add(pick(items.size() + 1), "c" + pick(901) + ";");
        for (String item : items) s.append(item);
        return s.toString();
    }

    /** A good text with a few letters changed, taken away or put in. */
    private static String spoiled(String s) {
        StringBuilder b = new StringBuilder(s);
        String signs = "rbc;0123456789 0 9xR\n-";
        int times = pick(3) + 1;
        for (int i = 0; i < times; i++) {
            int place = pick(b.length() + 1);
            int dice = pick(4);
            if (dice == 0) b.insert(place, signs.charAt(pick(signs.length())));
            if (dice == 1 && place < b.length()) b.deleteCharAt(place);
            if (dice == 2 && place < b.length()) b.setCharAt(place, signs.charAt(pick(signs.length())));
            if (dice == 3) b.setLength(place);
        }
        return b.toString();
    }

    private static int calls;
    private static int wrong;
    private static StringBuilder told = new StringBuilder();

    private static void same(int run, String call, long got, long want) {
        calls++;
        told.append(call).append(" = ").append(got).append('\n');
        if (got != want) {
            wrong++;
            if (wrong <= 5) System.out.println(told + "run " + run + ": " + call + " answered " + got + ", due is " + want);
        }
    }

    private static void type(int run, RiverTolls x, Model m, String s) {
        for (int i = 0; i < s.length(); i++) same(run, "type(" + (int) s.charAt(i) + ")", x.type(s.charAt(i)), m.type(s.charAt(i)));
        same(run, "river()", x.river(), m.river());
        if (pick(2) == 0) same(run, "clear()", x.clear(), m.clear());
    }

    private static void look(int run, RiverTolls x, Model m) {
        for (int what = 0; what < 7; what++) same(run, "now(" + what + ")", x.now(what), m.now(what));
        for (int r = 0; r < x.count(0); r++) {
            for (int what = 0; what < 6; what++) same(run, "rock(" + r + ", " + what + ")", x.rock(r, what), m.rock(r, what));
        }
        for (int lord = 0; lord < 4; lord++) same(run, "got(" + lord + ")", x.got(lord), m.got(lord));
    }

    private static void act(int run, RiverTolls x, Model m) {
        int a, b;
        switch (pick(10)) {
            case 0, 1: same(run, "pays()", x.pays(), m.pays()); break;
            case 2: same(run, "lands()", x.lands(), m.lands()); break;
            case 3: a = about(0, 9999); same(run, "nights(" + a + ")", x.nights(a), m.nights(a)); break;
            case 4: a = about(1, pick(4) == 0 ? 30 : 3); b = about(0, 30); same(run, "sells(" + a + ", " + b + ")", x.sells(a, b), m.sells(a, b)); break;
            case 5: a = about(0, 7); b = about(0, 9); same(run, "sets(" + a + ", " + b + ")", x.sets(a, b), m.sets(a, b)); break;
            case 6: a = about(0, 7); if (pick(2) == 0) same(run, "breaks(" + a + ")", x.breaks(a), m.breaks(a)); break;
            case 7: same(run, "undo()", x.undo(), m.undo()); break;
            case 8: a = about(0, 1); same(run, "keep(" + a + ")", x.keep(a), m.keep(a)); break;
            default: a = about(0, 1); same(run, "back(" + a + ")", x.back(a), m.back(a)); break;
        }
    }

    /** Mostly what was left by the model, with a coin too many at one of the rocks, so that took() has something to find. */
    private static void leave(int run, RiverTolls x, Model m) {
        int k = about(0, 8);
        int v = about(0, 900);
        int ahead = x.count(0) - x.now(0);
        if (pick(3) > 0 && ahead > 0) {
            k = pick(ahead + 1);
            if (x.enough() == 1) {
                // the model goes the way, and is brought back
                Model.Now was = m.now;
                List<Model.Now> past = new ArrayList<>(m.past);
                int[] land = new int[8];
                for (int r = was.at; r < x.count(0); r++) land[r] = m.way(r);
                m.now = was.copy();
                int spent = 0;
                for (int i = 0; i < k; i++) spent += land[was.at + i] == 1 ? m.lands() : m.pays();
                m.now = was;
                m.past = past;
                v = Math.max(0, Math.min(900, was.coins - spent - pick(2)));
            }
        }
        same(run, "left(" + k + ", " + v + ")", x.left(k, v), m.left(k, v));
    }

    private static void ask(int run, RiverTolls x, Model m) {
        int a, b;
        switch (pick(18)) {
            case 0: a = about(-1, 7); same(run, "way(" + a + ")", x.way(a), m.way(a)); break;
            case 1: same(run, "enough()", x.enough(), m.enough()); break;
            case 2: a = about(0, pick(2) == 0 ? 200 : 9999); same(run, "toBreak(" + a + ")", x.toBreak(a), m.toBreak(a)); break;
            case 3: a = about(0, 3); same(run, "byLord(" + a + ")", x.byLord(a), m.byLord(a)); break;
            case 4: a = about(0, 7); b = about(0, 1); same(run, "most(" + a + ", " + b + ")", x.most(a, b), m.most(a, b)); break;
            case 5: same(run, "still()", x.still(), m.still()); break;
            case 6: a = about(0, 7); b = about(0, 2); same(run, "cheap(" + a + ", " + b + ")", x.cheap(a, b), m.cheap(a, b)); break;
            case 7: a = about(0, 1); same(run, "two(" + a + ")", x.two(a), m.two(a)); break;
            case 8: same(run, "one()", x.one(), m.one()); break;
            case 9, 10: leave(run, x, m); break;
            case 11: if (pick(6) == 0) same(run, "forget()", x.forget(), m.forget()); break;
            case 12, 13: same(run, "took()", x.took(), m.took()); break;
            case 14: a = about(0, (1 << x.count(0)) - 1); b = about(0, 1); same(run, "odds(" + a + ", " + b + ")", x.odds(a, b), m.odds(a, b)); break;
            case 15: a = about(0, 5); b = about(0, 7); same(run, "rate(" + a + ", " + b + ")", x.rate(a, b), m.rate(a, b)); break;
            case 16: a = about(0, 7); b = about(0, 30); same(run, "takes(" + a + ", " + b + ")", x.takes(a, b), m.takes(a, b)); break;
            default: a = about(0, 2); same(run, "count(" + a + ")", x.count(a), m.count(a)); same(run, "trace()", x.trace(), m.trace()); break;
        }
    }

    public static void main(String[] args) {
        for (int run = 0; run < RUNS; run++) {
            seed = 1000003L * run + 17;
            told.setLength(0);
            RiverTolls x = new RiverTolls();
            Model m = new Model();
            if (pick(8) == 0) look(run, x, m);
            int end = calls + CALLS;
            type(run, x, m, pick(4) == 0 ? spoiled(goodText()) : goodText());
            while (calls < end) {
                int dice = pick(200);
                if (dice == 0) type(run, x, m, pick(2) == 0 ? spoiled(goodText()) : goodText());
                else if (dice == 1) look(run, x, m);
                else if (dice == 2) { int a = about(0, 255); same(run, "type(" + a + ")", x.type(a), m.type(a)); }
                else if (dice < 80) act(run, x, m);
                else ask(run, x, m);
            }
        }
        System.out.println("ModelTest: " + calls + " calls, " + wrong + " wrong");
        if (wrong != 0) System.exit(1);
    }
}
