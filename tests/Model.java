import java.util.ArrayList;
import java.util.Arrays;
import java.util.List;
import java.util.regex.Matcher;
import java.util.regex.Pattern;

/** The document once more, as slowly and plainly as it can be said: what RiverTolls is measured by. */
final class Model {
    static final int BAD = -1, STATE = -2, FULL = -3, NONE = -9, NO = -1000000;

    /** What changes as the boat goes. */
    static final class Now {
        int at, barrels = 10, coins = 100, letter = NONE, seized;
        int[] tolls = new int[0];
        boolean[] broken = new boolean[0];
        int[] got = new int[4];

        Now copy() {
            Now c = new Now();
            c.at = at;
            c.barrels = barrels;
            c.coins = coins;
            c.letter = letter;
            c.seized = seized;
            c.tolls = tolls.clone();
            c.broken = broken.clone();
            c.got = got.clone();
            return c;
        }
    }

    /** One way to the sea: 'p' or 'l' for each rock left. */
    static final class Way {
        int cost = Integer.MAX_VALUE;
        String turns = "";
        List<Integer> spent = new ArrayList<>();
    }

    StringBuilder text = new StringBuilder();
    List<int[]> rocks = new ArrayList<>();
    Now now = new Now();
    List<Now> past = new ArrayList<>();
    Now[] images = new Now[2];
    List<int[]> left = new ArrayList<>();
    long trace;

    int type(int letter) {
        if (letter < 0 || letter > 255) return BAD;
        if (text.length() == 200) return FULL;
        text.append((char) letter);
        return text.length();
    }

    int clear() {
        int n = text.length();
        text.setLength(0);
        return n;
    }

    /** Every token as its text, with its place; then an empty one at the text's end. */
    private static void tokens(String s, List<String> words, List<Integer> places) {
        Matcher m = Pattern.compile("[0-9]+|[^ ]").matcher(s);
        while (m.find()) {
            words.add(m.group());
            places.add(m.start());
        }
        words.add("");
        places.add(s.length());
    }

    private static boolean isNumber(String w, int least, int most) {
        return w.matches("0|[1-9][0-9]{0,2}") && Integer.parseInt(w) >= least && Integer.parseInt(w) <= most;
    }

    int river() {
        List<String> words = new ArrayList<>();
        List<Integer> places = new ArrayList<>();
        tokens(text.toString(), words, places);
        int[] least = {0, 1, 0, 0, 0};
        int[] most = {9, 5, 3, 10, 30};
        List<int[]> found = new ArrayList<>();
        int barrels = -1, coins = -1, items = 0, i = 0;
        while (!words.get(i).isEmpty()) {
            String w = words.get(i);
            if (w.equals("r") && found.size() < 8) {
                int[] rock = new int[5];
                for (int k = 0; k < 5; k++) {
                    i++;
                    if (!isNumber(words.get(i), least[k], most[k])) return -10 - places.get(i);
                    rock[k] = Integer.parseInt(words.get(i));
                }
                found.add(rock);
            } else if (w.equals("b") && barrels < 0) {
                i++;
                if (!isNumber(words.get(i), 1, 30)) return -10 - places.get(i);
                barrels = Integer.parseInt(words.get(i));
            } else if (w.equals("c") && coins < 0) {
                i++;
                if (!isNumber(words.get(i), 0, 900)) return -10 - places.get(i);
                coins = Integer.parseInt(words.get(i));
            } else {
                return -10 - places.get(i);
            }
            i++;
            if (!words.get(i).equals(";")) return -10 - places.get(i);
            i++;
            items++;
        }
        rocks = found;
        now = new Now();
        if (barrels >= 0) now.barrels = barrels;
        if (coins >= 0) now.coins = coins;
        now.tolls = new int[rocks.size()];
        now.broken = new boolean[rocks.size()];
        for (int r = 0; r < rocks.size(); r++) now.tolls[r] = rocks.get(r)[0];
        past.clear();
        images = new Now[2];
        left.clear();
        text.setLength(0);
        return items;
    }

    private boolean no(int r) {
        return r < 0 || r >= rocks.size();
    }

    int rock(int r, int what) {
        if (no(r) || what < 0 || what > 5) return BAD;
        if (what == 0) return now.tolls[r];
        if (what == 5) return now.broken[r] ? 1 : 0;
        return rocks.get(r)[what];
    }

    private int takes(Now s, int r, int n, int letter) {
        if (s.broken[r] || letter == rocks.get(r)[2]) return 0;
        int measures = 0;
        for (int filled = 0; filled < n; filled += rocks.get(r)[1]) measures++;
        return s.tolls[r] * measures;
    }

    int takes(int r, int n) {
        return no(r) || n < 0 || n > 30 ? BAD : takes(now, r, n, NONE);
    }

    int now(int what) {
        if (what < 0 || what > 6) return BAD;
        int next = now.at == rocks.size() ? NONE : takes(now, now.at, now.barrels, now.letter);
        return new int[] {now.at, now.barrels, now.coins, now.letter, now.seized, next, past.size()}[what];
    }

    int got(int lord) {
        return lord < 0 || lord > 3 ? BAD : now.got[lord];
    }

    private void remember() {
        past.add(now.copy());
        if (past.size() > 10) past.remove(0);
    }

    int pays() {
        if (now.at == rocks.size()) return STATE;
        int cost = takes(now, now.at, now.barrels, now.letter);
        if (cost > now.coins) return STATE;
        remember();
        now.coins -= cost;
        now.letter = cost > 0 ? rocks.get(now.at)[2] : NONE;
        now.got[rocks.get(now.at)[2]] += cost;
        now.at++;
        return cost;
    }

    int lands() {
        if (now.at == rocks.size()) return STATE;
        int cost = rocks.get(now.at)[4] * now.barrels;
        if (cost > now.coins) return STATE;
        remember();
        now.coins -= cost;
        now.letter = NONE;
        now.at++;
        return cost;
    }

    int nights(int z) {
        if (z < 0 || z > 9999) return BAD;
        if (now.at == rocks.size()) return STATE;
        remember();
        long q = 7919L * z + 6151L * now.at + 1L;
        long draw = ((q * q) % 65521L) / 8L;
        int lost = draw % 10 < rocks.get(now.at)[3] ? (now.barrels + 1) / 2 : 0;
        now.barrels -= lost;
        now.seized += lost;
        now.letter = NONE;
        now.at++;
        return lost;
    }

    int sells(int n, int p) {
        if (n < 1 || n > 30 || p < 0 || p > 30) return BAD;
        if (n > now.barrels || now.coins + n * p > 999999) return STATE;
        remember();
        now.barrels -= n;
        now.coins += n * p;
        return now.coins;
    }

    int sets(int r, int t) {
        if (no(r) || t < 0 || t > 9) return BAD;
        remember();
        int old = now.tolls[r];
        now.tolls[r] = t;
        return old;
    }

    int breaks(int r) {
        if (no(r)) return BAD;
        if (now.broken[r]) return STATE;
        remember();
        now.broken[r] = true;
        int n = 0;
        for (boolean b : now.broken) if (b) n++;
        return n;
    }

    int undo() {
        if (past.isEmpty()) return STATE;
        now = past.remove(past.size() - 1);
        return past.size();
    }

    /** All ways, those that pay first ahead; the first of the cheapest. */
    private Way way(Now s) {
        int n = rocks.size() - s.at;
        Way best = new Way();
        for (int number = 0; number < 1 << n; number++) {
            Way w = new Way();
            w.cost = 0;
            int letter = s.letter;
            for (int k = 0; k < n; k++) {
                int r = s.at + k;
                boolean land = (number >> (n - 1 - k)) % 2 == 1;
                int cost = land ? rocks.get(r)[4] * s.barrels : takes(s, r, s.barrels, letter);
                letter = !land && cost > 0 ? rocks.get(r)[2] : NONE;
                w.turns += land ? "l" : "p";
                w.spent.add(cost);
                w.cost += cost;
            }
            if (w.cost < best.cost) best = w;
        }
        return best;
    }

    private int paid(Way w, Now s, int r) {
        return w.turns.charAt(r - s.at) == 'p' ? w.spent.get(r - s.at) : 0;
    }

    int way(int r) {
        if (r < -1 || r >= rocks.size()) return BAD;
        if (r == -1) return way(now).cost;
        if (r < now.at) return NONE;
        return way(now).turns.charAt(r - now.at) == 'l' ? 1 : 0;
    }

    int enough() {
        return way(now).cost <= now.coins ? 1 : 0;
    }

    int toBreak(int c) {
        if (c < 0 || c > 9999) return BAD;
        int best = -1;
        for (int set = 0; set < 1 << rocks.size(); set++) {
            if (set % (1 << now.at) != 0) continue;
            if (best >= 0 && Integer.bitCount(set) >= Integer.bitCount(best)) continue;
            Now s = now.copy();
            for (int r = 0; r < rocks.size(); r++) if ((set >> r & 1) == 1) s.broken[r] = true;
            if (way(s).cost <= c) best = set;
        }
        return best;
    }

    int byLord(int lord) {
        if (lord < 0 || lord > 3) return BAD;
        Way w = way(now);
        int sum = 0;
        for (int r = now.at; r < rocks.size(); r++) if (rocks.get(r)[2] == lord) sum += paid(w, now, r);
        return sum;
    }

    private int paidIf(int r, int toll) {
        Now s = now.copy();
        s.tolls[r] = toll;
        return paid(way(s), s, r);
    }

    int most(int r, int what) {
        if (no(r) || what < 0 || what > 1) return BAD;
        if (r < now.at || now.broken[r]) return NONE;
        int toll = 0;
        for (int t = 1; t <= 9; t++) if (paidIf(r, t) > paidIf(r, toll)) toll = t;
        return what == 0 ? toll : paidIf(r, toll);
    }

    int still() {
        int bits = 0;
        for (int r = now.at; r < rocks.size(); r++) {
            if (!now.broken[r] && paidIf(r, now.tolls[r]) > 0 && paidIf(r, now.tolls[r] + 1) > 0) bits |= 1 << r;
        }
        return bits;
    }

    private static int fraction(int upper, int lower, boolean up) {
        for (int d = lower; d > 1; d--) {
            if (upper % d == 0 && lower % d == 0) return (up ? upper : lower) / d;
        }
        return up ? upper : lower;
    }

    int cheap(int r, int what) {
        if (no(r) || what < 0 || what > 2) return BAD;
        int best = 1;
        for (int n = 2; n <= 30; n++) {
            if ((double) takes(r, n) / n < (double) takes(r, best) / best - 1e-9) best = n;
        }
        return what == 0 ? best : fraction(takes(r, best), best, what == 1);
    }

    int two(int what) {
        if (what < 0 || what > 1) return BAD;
        if (now.barrels < 2) return NONE;
        int best = 0, least = Integer.MAX_VALUE;
        for (int x = 1; x <= now.barrels / 2; x++) {
            Now a = now.copy(), b = now.copy();
            a.barrels = x;
            b.barrels = now.barrels - x;
            int cost = way(a).cost + way(b).cost;
            if (cost < least) {
                least = cost;
                best = x;
            }
        }
        return what == 0 ? best : least;
    }

    int one() {
        if (now.barrels == 0) return NONE;
        int coins = 0;
        while (coins * now.barrels < way(now).cost) coins++;
        return coins;
    }

    int left(int k, int v) {
        if (k < 0 || k > 8 || v < 0 || v > 900) return BAD;
        if (left.size() == 6) return FULL;
        left.add(new int[] {k, v});
        return left.size();
    }

    int forget() {
        int n = left.size();
        left.clear();
        return n;
    }

    /** What is left behind each number of rocks, if the one at place more (-1: none) took a coin too many. */
    private List<Integer> purse(int more) {
        List<Integer> purse = new ArrayList<>();
        int coins = now.coins;
        purse.add(coins);
        List<Integer> spent = way(now).spent;
        for (int k = 0; k < spent.size(); k++) {
            coins -= spent.get(k) + (k == more ? 1 : 0);
            purse.add(coins);
        }
        return purse;
    }

    private boolean allSo(int more) {
        List<Integer> purse = purse(more);
        for (int[] l : left) {
            if (l[0] >= purse.size() || purse.get(l[0]) != l[1]) return false;
        }
        return true;
    }

    int took() {
        int bits = allSo(-1) ? 256 : 0;
        for (int k = 0; k < rocks.size() - now.at; k++) if (allSo(k)) bits |= 1 << (now.at + k);
        return bits;
    }

    int odds(int set, int what) {
        if (set < 0 || set >= 1 << rocks.size() || what < 0 || what > 1) return BAD;
        int upper = 1, lower = 1;
        for (int r = now.at; r < rocks.size(); r++) {
            if ((set >> r & 1) == 0) continue;
            upper *= 10 - rocks.get(r)[3];
            lower *= 10;
            for (int p : new int[] {2, 5}) {
                while (upper % p == 0 && lower % p == 0) {
                    upper /= p;
                    lower /= p;
                }
            }
        }
        if (upper == 0) lower = 1;
        return what == 0 ? upper : lower;
    }

    int rate(int kind, int r) {
        if (kind < 0 || kind > 5 || no(r)) return NO;
        int toll = now.tolls[r];
        int[] rock = rocks.get(r);
        trace += new long[] {1, 11, 101, 1011, 10101, 100001}[kind];
        int[] rates = {toll, toll + rock[3], toll - rock[4], 2 * (toll + rock[3]), toll - rock[4] + r, toll + now.barrels};
        return rates[kind];
    }

    int keep(int image) {
        if (image < 0 || image > 1) return BAD;
        images[image] = now.copy();
        return now.at;
    }

    int back(int image) {
        if (image < 0 || image > 1) return BAD;
        if (images[image] == null) return STATE;
        now = images[image].copy();
        past.clear();
        return now.at;
    }

    int count(int what) {
        return what < 0 || what > 2 ? BAD : Arrays.asList(rocks.size(), left.size(), text.length()).get(what);
    }

    long trace() {
        return trace;
    }
}
