import java.util.ArrayList;
import java.util.Arrays;
import java.util.List;
import java.util.regex.Matcher;
import java.util.regex.Pattern;

/**
 * The document once more, written as plainly as can be and in other ways than the class: copies for
 * what may be undone, all ways tried for SEATS, a pattern for TOKENS. Slow, for tests alone.
 */
final class Model {
    private static final int BAD = -1, STATE = -2, FULL = -3, NONE = -9, NO = -1000000;
    private static final Pattern TOKEN = Pattern.compile(" *(?:([a-z]+)|([0-9]+)|(;))");

    /** What an IMAGE keeps, but for what may be undone. */
    private static final class Now {
        int turn;
        int hour;
        boolean cloud;
        int feasts;
        List<Integer> spots = new ArrayList<>();
        int[][] owed = new int[6][6];
        int[] patience = new int[6];

        Now copy() {
            Now n = new Now();
            n.turn = turn;
            n.hour = hour;
            n.cloud = cloud;
            n.feasts = feasts;
            n.spots = new ArrayList<>(spots);
            for (int p = 0; p < 6; p++) {
                n.owed[p] = owed[p].clone();
            }
            n.patience = patience.clone();
            return n;
        }
    }

    private String text = "";
    private List<Integer> panes = new ArrayList<>();
    private List<Integer> wants = new ArrayList<>();
    private int keeps = 8;
    private int drag = 1;
    private Now now = new Now();
    private List<Now> past = new ArrayList<>();
    private final Now[] imageNow = new Now[2];
    private final List<List<Now>> imagePast = new ArrayList<>(Arrays.asList(null, null));
    private final List<int[]> seen = new ArrayList<>();
    private final List<int[]> heard = new ArrayList<>();
    private long trace = 0;

    long call(String name, int[] a) {
        switch (name) {
            case "type": return type(a[0]);
            case "clear": { int n = text.length(); text = ""; return n; }
            case "rose": return rose();
            case "pane": return spot(a[0]) ? panes.get(a[0]) : BAD;
            case "one": return one(a[0], a[1]);
            case "owed": return two(a[0], a[1]) ? now.owed[a[0]][a[1]] : BAD;
            case "spins": return spins(a[0]);
            case "goes": return goes(a[0], a[1]);
            case "passes": return passes(a[0]);
            case "covers": return covers(a[0]);
            case "forgives": return forgives(a[0], a[1]);
            case "undo": return undo();
            case "now": return now(a[0]);
            case "clicks": return speed(a[0]) ? clicks(a[0], keeps, drag) : BAD;
            case "stops": return !speed(a[0]) ? BAD : panes.isEmpty() ? STATE : stop(a[0]);
            case "shade": return spot(a[0]) && speed(a[1]) ? behind(a[0], a[1]) : BAD;
            case "speeds": return speeds(a[0], a[1], a[2]);
            case "steps": return steps(a[0], a[1], a[2], a[3]);
            case "chair": return chair(a[0], a[1]);
            case "seats": return seats(a[0], a[1]);
            case "odds": return odds(a[0], a[1], a[2], a[3], a[4]);
            case "saw": return saw(a[0], a[1]);
            case "spun": return spun(a[0]);
            case "look": return look();
            case "hears": return hears(a[0], a[1]);
            case "laws": return laws(a[0]);
            case "tryNext": return tryNext();
            case "forget": { int n = seen.size() + heard.size(); seen.clear(); heard.clear(); return n; }
            case "mark": return mark(a[0], a[1]);
            case "keep": return keep(a[0]);
            case "back": return back(a[0]);
            case "count": return count(a[0]);
            case "trace": return trace;
            default: throw new IllegalArgumentException(name);
        }
    }

    private boolean spot(int s) { return s >= 0 && s < panes.size(); }
    private boolean person(int p) { return p >= 0 && p < wants.size(); }
    private boolean two(int p, int q) { return person(p) && person(q) && p != q; }
    private static boolean speed(int v) { return v >= 1 && v <= 60; }
    private static boolean colour(int c) { return c >= 0 && c <= 5; }

    private int type(int c) {
        if (c < 0 || c > 255) return BAD;
        if (text.length() == 150) return FULL;
        text += (char) c;
        return text.length();
    }

    private int rose() {
        List<Integer> p = new ArrayList<>();
        List<Integer> s = new ArrayList<>();
        List<Integer> w = new ArrayList<>();
        int k = -1, d = -1, items = 0, number = 0, place = 0;
        String state = "item";
        String rest = text;
        while (true) {
            String left = rest.replaceFirst("^ +", "");
            place += rest.length() - left.length();
            rest = left;
            if (rest.isEmpty()) {
                if (!state.equals("item")) return -10 - place;
                break;
            }
            Matcher m = TOKEN.matcher(rest);
            if (!m.lookingAt()) return -10 - place;
            String token = m.group();
            int n = -1;
            if (m.group(2) != null) {
                if (token.length() > 2 || token.length() == 2 && token.charAt(0) == '0') return -10 - place;
                n = Integer.parseInt(token);
            }
            boolean ok;
            switch (state) {
                case "item":
                    ok = token.equals("c") && p.size() < 12 || token.equals("k") && k < 0
                        || token.equals("d") && d < 0 || token.equals("p") && s.size() < 6;
                    state = token;
                    break;
                case "c": ok = n >= 0 && n <= 5; if (ok) p.add(n); state = "end"; break;
                case "k": ok = n >= 0 && n <= 9; k = n; state = "end"; break;
                case "d": ok = n >= 1 && n <= 9; d = n; state = "end"; break;
                case "p": ok = n >= 0 && n < p.size() && !s.contains(n); number = n; state = "want"; break;
                case "want": ok = n >= 1 && n <= 5; s.add(number); w.add(n); state = "end"; break;
                default: ok = token.equals(";"); items++; state = "item"; break;
            }
            if (!ok) return -10 - place;
            rest = rest.substring(token.length());
            place += token.length();
        }
        panes = p;
        wants = w;
        keeps = k < 0 ? 8 : k;
        drag = d < 0 ? 1 : d;
        now = new Now();
        now.spots = s;
        past = new ArrayList<>();
        imageNow[0] = null;
        imageNow[1] = null;
        seen.clear();
        heard.clear();
        text = "";
        return items;
    }

    private int stands(int p) {
        return now.cloud ? 0 : panes.get((now.spots.get(p) + now.turn + now.hour) % panes.size());
    }

    private int one(int p, int what) {
        if (!person(p)) return BAD;
        if (what == 0) return now.spots.get(p);
        if (what == 1) return wants.get(p);
        if (what == 2) return stands(p);
        if (what == 3) return now.patience[p];
        return what == 4 ? Arrays.stream(now.owed[p]).sum() : BAD;
    }

    private void done() {
        past.add(now.copy());
        if (past.size() > 10) past.remove(0);
    }

    private static int clicks(int v, int k, int d) {
        return v <= 0 ? 0 : v + clicks((int) Math.floor(v * k / 10.0) - d, k, d);
    }

    private int stop(int v) { return (now.turn + clicks(v, keeps, drag)) % panes.size(); }
    private int behind(int s, int v) { return panes.get((s + stop(v) + now.hour) % panes.size()); }

    private int spins(int v) {
        if (!speed(v)) return BAD;
        if (panes.isEmpty()) return STATE;
        if (now.feasts == 999) return FULL;
        done();
        now.turn = stop(v);
        now.feasts++;
        for (int p = 0; p < wants.size(); p++) {
            for (int q = 0; q < wants.size(); q++) {
                if (stands(p) == 1 && stands(q) == 2 && now.owed[p][q] < 99) now.owed[p][q]++;
            }
            if (stands(p) != 3) now.patience[p] = 0;
            else if (now.patience[p] < 99) now.patience[p]++;
        }
        return now.turn;
    }

    private int goes(int p, int s) {
        if (!person(p) || !spot(s)) return BAD;
        if (now.spots.contains(s)) return STATE;
        done();
        return now.spots.set(p, s);
    }

    private int passes(int n) {
        if (n < 1 || n > 11) return BAD;
        if (panes.isEmpty()) return STATE;
        done();
        return now.hour = (now.hour + n) % panes.size();
    }

    private int covers(int is) {
        if (is != 0 && is != 1) return BAD;
        if (now.cloud == (is == 1)) return STATE;
        done();
        now.cloud = is == 1;
        int n = 0;
        for (int p = 0; p < wants.size(); p++) if (stands(p) == 0) n++;
        return n;
    }

    private int forgives(int p, int q) {
        if (!two(p, q)) return BAD;
        int was = now.owed[p][q];
        if (was == 0) return STATE;
        done();
        now.owed[p][q] = 0;
        return was;
    }

    private int undo() {
        if (past.isEmpty()) return STATE;
        now = past.remove(past.size() - 1);
        return past.size();
    }

    private int now(int what) {
        switch (what) {
            case 0: return now.turn;
            case 1: return now.hour;
            case 2: return now.cloud ? 1 : 0;
            case 3: return now.feasts;
            case 4: { int sum = 0; for (int p = 0; p < wants.size(); p++) sum += one(p, 4); return sum; }
            case 5: return alike();
            case 6: return ring();
            default: return BAD;
        }
    }

    private int alike() {
        for (int t = 1; t <= panes.size(); t++) {
            List<Integer> turned = new ArrayList<>(panes.subList(t % panes.size(), panes.size()));
            turned.addAll(panes.subList(0, t % panes.size()));
            if (turned.equals(panes)) return t;
        }
        return NONE;
    }

    private int ring() {
        boolean[][] r = new boolean[6][6];
        for (int p = 0; p < 6; p++) for (int q = 0; q < 6; q++) r[p][q] = now.owed[p][q] > 0;
        for (int k = 0; k < 6; k++) for (int p = 0; p < 6; p++) for (int q = 0; q < 6; q++) r[p][q] |= r[p][k] && r[k][q];
        int bits = 0;
        for (int p = 0; p < 6; p++) if (r[p][p]) bits += 1 << p;
        return bits;
    }

    private List<Integer> speedsOf(int s, int c, int m) {
        List<Integer> all = new ArrayList<>();
        for (int v = 1; v <= m; v++) if (behind(s, v) == c) all.add(v);
        return all;
    }

    private int speeds(int s, int c, int what) {
        if (!spot(s) || !colour(c) || what != 0 && what != 1) return BAD;
        List<Integer> all = speedsOf(s, c, 60);
        return what == 0 ? all.size() : all.isEmpty() ? NONE : all.get(0);
    }

    private int steps(int p, int c, int v, int what) {
        if (!person(p) || !colour(c) || !speed(v) || what != 0 && what != 1) return BAD;
        int n = panes.size();
        for (int far = 0; far <= n / 2; far++) {
            int down = (now.spots.get(p) - far + n) % n, up = (now.spots.get(p) + far) % n;
            for (int s : new int[] {Math.min(down, up), Math.max(down, up)}) {
                int who = now.spots.indexOf(s);
                if ((who < 0 || who == p) && behind(s, v) == c) return what == 0 ? far : s;
            }
        }
        return NONE;
    }

    private int chair(int c, int what) {
        if (!colour(c) || what != 0 && what != 1) return BAD;
        int best = NONE, most = NONE;
        for (int s = panes.size() - 1; s >= 0; s--) {
            int n = speedsOf(s, c, 60).size();
            if (n >= most) { most = n; best = s; }
        }
        return what == 0 ? best : most;
    }

    private int[] bestWay;
    private int bestMet;

    private void tryWays(int[] way, int p, int taken, int[] colours) {
        if (p == way.length) {
            int met = 0;
            for (int i = 0; i < p; i++) if (colours[way[i]] == wants.get(i)) met++;
            if (met > bestMet) { bestMet = met; bestWay = way.clone(); }
            return;
        }
        for (int s = 0; s < colours.length; s++) {
            if ((taken >> s & 1) == 0) { way[p] = s; tryWays(way, p + 1, taken | 1 << s, colours); }
        }
    }

    private int seats(int v, int p) {
        if (!speed(v) || p != -1 && !person(p)) return BAD;
        if (panes.isEmpty()) return STATE;
        int[] colours = new int[panes.size()];
        for (int s = 0; s < colours.length; s++) colours[s] = behind(s, v);
        bestMet = -1;
        tryWays(new int[wants.size()], 0, 0, colours);
        return p == -1 ? bestMet : bestWay[p];
    }

    private int odds(int s, int c, int m, int x, int what) {
        if (!spot(s) || !colour(c) || !speed(m) || x < 0 || x > 10 || what != 0 && what != 1) return BAD;
        int up = 0, low = 10 * m;
        for (int v = 1; v <= m; v++) for (int tenth = 1; tenth <= 10; tenth++) if ((tenth <= x ? 0 : behind(s, v)) == c) up++;
        int by = java.math.BigInteger.valueOf(up).gcd(java.math.BigInteger.valueOf(low)).intValue();
        return what == 0 ? up / by : low / by;
    }

    private int saw(int s, int c) {
        if (!spot(s) || !colour(c)) return BAD;
        if (seen.size() == 6) return FULL;
        seen.add(new int[] {s, c});
        return seen.size();
    }

    private List<Integer> candidates() {
        List<Integer> all = new ArrayList<>();
        for (int v = 1; v <= 60; v++) {
            final int speed = v;
            if (seen.stream().allMatch(n -> behind(n[0], speed) == n[1])) all.add(v);
        }
        return all;
    }

    private int spun(int what) {
        if (what < 0 || what > 2) return BAD;
        List<Integer> all = candidates();
        if (what == 0) return all.size();
        return all.isEmpty() ? NONE : all.get(what == 1 ? 0 : all.size() - 1);
    }

    private int look() {
        List<Integer> all = candidates();
        int best = NONE, least = 99;
        for (int s = 0; s < panes.size() && !all.isEmpty(); s++) {
            int most = 0;
            for (int c = 0; c <= 5; c++) {
                int n = 0;
                for (int v : all) if (behind(s, v) == c) n++;
                most = Math.max(most, n);
            }
            if (most < least) { least = most; best = s; }
        }
        return best;
    }

    private int hears(int v, int c) {
        if (!speed(v) || c < 0 || c > 999) return BAD;
        if (heard.size() == 6) return FULL;
        heard.add(new int[] {v, c});
        return heard.size();
    }

    private List<int[]> lawsLeft() {
        List<int[]> all = new ArrayList<>();
        for (int k = 0; k <= 9; k++) {
            for (int d = 1; d <= 9; d++) {
                final int kk = k, dd = d;
                if (heard.stream().allMatch(n -> clicks(n[0], kk, dd) == n[1])) all.add(new int[] {k, d});
            }
        }
        return all;
    }

    private int laws(int what) {
        if (what != 0 && what != 1) return BAD;
        List<int[]> all = lawsLeft();
        if (what == 0) return all.size();
        return all.isEmpty() ? NONE : 10 * all.get(0)[0] + all.get(0)[1];
    }

    private int tryNext() {
        List<int[]> all = lawsLeft();
        int best = NONE, least = 99;
        for (int v = 1; v <= 60 && !all.isEmpty(); v++) {
            int[] groups = new int[2000];
            for (int[] law : all) groups[clicks(v, law[0], law[1])]++;
            int most = Arrays.stream(groups).max().getAsInt();
            if (most < least) { least = most; best = v; }
        }
        return best;
    }

    private int mark(int kind, int p) {
        if (kind < 0 || kind > 5 || !person(p)) return NO;
        switch (kind) {
            case 0: trace += 1; return stands(p);
            case 1: trace += 10; return mark(0, p) + now.patience[p];
            case 2: trace += 100; return mark(0, p) - now.spots.get(p);
            case 3: trace += 1000; return 2 * mark(1, p);
            case 4: trace += 10000; return mark(2, p) + p;
            default: trace += 100000; return mark(0, p) + now.feasts;
        }
    }

    private static List<Now> copyOf(List<Now> days) {
        List<Now> copy = new ArrayList<>();
        for (Now n : days) copy.add(n.copy());
        return copy;
    }

    private int keep(int i) {
        if (i != 0 && i != 1) return BAD;
        imageNow[i] = now.copy();
        imagePast.set(i, copyOf(past));
        return now.feasts;
    }

    private int back(int i) {
        if (i != 0 && i != 1) return BAD;
        if (imageNow[i] == null) return STATE;
        now = imageNow[i].copy();
        past = copyOf(imagePast.get(i));
        return now.feasts;
    }

    private int count(int what) {
        int[] all = {panes.size(), keeps, drag, wants.size(), seen.size(), heard.size(), past.size(), text.length()};
        return what >= 0 && what < all.length ? all[what] : BAD;
    }
}
