import java.math.BigInteger;
import java.util.ArrayList;
import java.util.List;

/**
 * The document once more, in other ways than the class: closed formulas for the
 * kinds, states as plain arrays made anew, and every search by trying all.
 * Slow, and written only to be compared with.
 */
final class Model {
    /** KIND, FIGURE, TRUST, STEP, COLD of each. */
    private List<int[]> all = new ArrayList<>();
    private int minute = 0;
    private List<int[]> imaged = null;
    private int imagedMinute = 0;
    private final Object[] shelf = new Object[8];

    // ---- kinds

    static int holds(int[] p) {
        return new int[] {2, 1, 3, 3, 1, 1, 3 + p[1] / 3, 1}[p[0]];
    }

    static int needs(int[] p) {
        int s = p[3];
        return s == 7 ? 0 : new int[] {s + 4, s + 2, 2 * s + 8, s + 4 + p[1] / 4, s + 2, s + 2, 2 * s + 7, (s + 2) / 2}[p[0]];
    }

    static int fright(int[] p) {
        return new int[] {3, 2, 3 + p[1] / 2, 3, 0, 2, 6 + p[1] / 2 * 2, 2}[p[0]];
    }

    static int bears(int[] p) {
        int bold = 5 + p[1];
        return new int[] {5, bold, 4, 5, bold, bold, 4, 20}[p[0]];
    }

    static int passes(int[] p) {
        return new int[] {1, 1, 0, 1, 2, 3, 0, 1}[p[0]];
    }

    static int price(int k, int f) {
        return new int[] {5, 5 + f, 3, 10, 4 + f, 9 + f, 3 + f, (5 + f) / 2}[k];
    }

    // ---- the rules on a state

    static int cut(int v) {
        return v < 0 ? 0 : v > 20 ? 20 : v;
    }

    static boolean swims(int[] p) {
        return p[3] == 7;
    }

    static boolean isReady(int[] p) {
        return p[3] != 7 && p[2] >= needs(p);
    }

    static List<int[]> twin(List<int[]> s) {
        List<int[]> t = new ArrayList<>();
        for (int[] p : s) {
            t.add(p.clone());
        }
        return t;
    }

    /** 1 for a swallow. */
    static int happens(List<int[]> s, int c, int way) {
        int[] p = s.get(c);
        int swallow = 0;
        if (way == 0) {
            p[2] = cut(p[2] + holds(p));
        }
        if (way == 1) {
            p[2] = cut(p[2] + holds(p) / 2 + 1);
            p[3] += p[2] >= needs(p) + 3 ? 1 : 0;
        }
        if (way == 2) {
            boolean well = isReady(p);
            swallow = well ? 0 : 1;
            if (well) {
                p[3]++;
            } else {
                p[2] = cut(p[2] - fright(p));
            }
            for (int o = 0; o < s.size(); o++) {
                if (o == c - 1 || o == c + 1) {
                    s.get(o)[2] = cut(s.get(o)[2] + (well ? passes(p) : -passes(p)));
                }
            }
        }
        if (way == 3) {
            boolean any = false;
            boolean near = false;
            for (int o = 0; o < s.size(); o++) {
                any |= s.get(o)[3] > p[3];
                near |= s.get(o)[3] > p[3] && (o == c - 1 || o == c + 1);
            }
            p[2] = cut(p[2] + (any ? 1 : 0) + (near ? 1 : 0));
        }
        for (int[] q : s) {
            if (q != p && !swims(q)) {
                q[4] = Math.min(20, q[4] + 1);
                if (q[4] > bears(q)) {
                    q[2] = cut(q[2] - 1);
                    q[4] = 0;
                }
            }
        }
        return swallow;
    }

    static void pause(List<int[]> s, int n) {
        for (int[] p : s) {
            p[3] = swims(p) ? 7 : Math.max(0, p[3] - n / 3);
            p[2] = cut(p[2] - n);
            p[4] = 0;
        }
    }

    static int sum(List<int[]> s, int what) {
        int sum = 0;
        for (int[] p : s) {
            sum += p[what];
        }
        return sum;
    }

    private boolean one(int c) {
        return c >= 0 && c < all.size();
    }

    private static boolean in(int v, int a, int b) {
        return a <= v && v <= b;
    }

    // ---- the bath as told

    int bath(int d) {
        if (!in(d, 0, 7)) return -1;
        if (shelf[d] == null) return -11;
        if (!(shelf[d] instanceof byte[])) return -12;
        byte[] row = (byte[]) shelf[d];
        StringBuilder b = new StringBuilder();
        for (byte v : row) {
            b.append((char) (v & 255));
        }
        String text = b.toString();
        int place = fault(text);
        if (place >= 0) return -1000 - place;
        List<int[]> s = twin(all);
        int m = minute;
        int at = 0;
        int n = 0;
        for (String t : text.split(";")) {
            int r = said(s, t, m);
            if (r < 0) return -2000 - at;
            m += r;
            at += t.length() + 1;
            n++;
        }
        all = s;
        minute = m;
        return n;
    }

    /** The longest prefix that some text begins with, by trying to complete it. */
    private static int fault(String text) {
        String whole = "((c\\d{4}|m\\d{2}|b\\d|x\\d{2}|t\\d{3}|s\\d{2});)+";
        if (text.matches(whole)) return -1;
        for (int n = text.length(); n >= 0; n--) {
            String p = text.substring(0, n);
            String[] ends = {"b0;", "0000;", "000;", "00;", "0;", ";", ""};
            for (String e : ends) {
                if ((p + e).matches(whole)) return n;
            }
        }
        throw new IllegalStateException();
    }

    /** -1 not so, else the minutes that go. */
    private static int said(List<int[]> s, String t, int m) {
        int a = t.charAt(1) - '0';
        int b = t.length() > 2 ? t.charAt(2) - '0' : 0;
        switch (t.charAt(0)) {
            case 'c': {
                int trust = Integer.parseInt(t.substring(3));
                if (a > 7 || trust > 20 || s.size() == 6) return -1;
                s.add(new int[] {a, b, trust, 0, 0});
                return 0;
            }
            case 'm':
                if (a >= s.size() || b > 3 || swims(s.get(a)) || m == 999) return -1;
                happens(s, a, b);
                return 1;
            case 'b':
                pause(s, a);
                return 0;
            case 'x':
                if (a >= s.size() || b >= s.size() || a == b) return -1;
                int[] p = s.get(a);
                s.set(a, s.get(b));
                s.set(b, p);
                return 0;
            case 't': {
                int trust = Integer.parseInt(t.substring(2));
                if (a >= s.size() || trust > 20) return -1;
                s.get(a)[2] = trust;
                return 0;
            }
            default:
                if (a >= s.size() || b > 7) return -1;
                s.get(a)[3] = b;
                return 0;
        }
    }

    int child(int c, int what) {
        if (!one(c) || !in(what, 0, 9)) return -1;
        int[] p = all.get(c);
        return what < 5 ? p[what] : new int[] {holds(p), needs(p), fright(p), bears(p), passes(p)}[what - 5];
    }

    int comes(int d, int trust) {
        if (!in(d, 0, 7) || !in(trust, 0, 20)) return -1;
        if (shelf[d] == null) return -11;
        if (!(shelf[d] instanceof Kind)) return -12;
        if (all.size() == 6) return -2;
        Kind k = (Kind) shelf[d];
        all.add(new int[] {k.k, k.f, trust, 0, 0});
        return all.size() - 1;
    }

    int feels(int c, int what, int v) {
        if (!one(c) || !in(what, 0, 1) || !in(v, 0, what == 0 ? 20 : 7)) return -1;
        int was = all.get(c)[2 + what];
        all.get(c)[2 + what] = v;
        return was;
    }

    int minute(int c, int way) {
        if (!one(c) || !in(way, 0, 3)) return -1;
        if (swims(all.get(c)) || minute == 999) return -3;
        happens(all, c, way);
        minute++;
        return all.get(c)[2];
    }

    int change(int a, int b) {
        if (!one(a) || !one(b) || a == b) return -1;
        int[] p = all.get(a);
        all.set(a, all.get(b));
        all.set(b, p);
        return 1;
    }

    int rest(int weeks) {
        if (!in(weeks, 0, 9)) return -1;
        pause(all, weeks);
        return sum(all, 3);
    }

    // ---- who can be let go

    private static int readyBits(List<int[]> s) {
        int bits = 0;
        for (int c = 0; c < s.size(); c++) {
            bits += isReady(s.get(c)) ? 1 << c : 0;
        }
        return bits;
    }

    int ready() {
        return readyBits(all);
    }

    /** Backwards from who SWIMS: a round for each minute; index TRUST, STEP. */
    private static int[][] minutes(int[] p, int first) {
        int[][] m = new int[21][8];
        for (int[] r : m) {
            java.util.Arrays.fill(r, 0, 7, 999);
        }
        for (int round = 1; round <= 60; round++) {
            int[][] next = new int[21][];
            for (int t = 0; t <= 20; t++) {
                next[t] = m[t].clone();
                for (int s = 0; s < 7; s++) {
                    for (int way = first; way <= 2; way++) {
                        int[] q = {p[0], p[1], t, s, 0};
                        lonely(q, way);
                        if (m[q[2]][q[3]] == round - 1 && next[t][s] == 999) {
                            next[t][s] = round;
                        }
                    }
                }
            }
            m = next;
        }
        return m;
    }

    private static void lonely(int[] q, int way) {
        List<int[]> s = new ArrayList<>();
        s.add(q);
        happens(s, 0, way);
    }

    int alone(int c, int what) {
        if (!one(c) || !in(what, 0, 1)) return -1;
        int[] p = all.get(c);
        int[][] m = minutes(p, 0);
        int best = m[p[2]][p[3]];
        if (best == 999) return -4;
        if (what == 0) return best;
        for (int way = 0; way <= 2 && best > 0; way++) {
            int[] q = p.clone();
            lonely(q, way);
            if (m[q[2]][q[3]] == best - 1) return way;
        }
        return -4;
    }

    int neverHeld(int c) {
        if (!one(c)) return -1;
        int[] p = all.get(c);
        int best = minutes(p, 1)[p[2]][p[3]];
        return best == 999 ? -4 : best;
    }

    private static int most(List<int[]> s, int n) {
        int best = sum(s, 3);
        if (n == 0) return best;
        for (int c = 0; c < s.size(); c++) {
            for (int way = 0; way <= 2 && !swims(s.get(c)); way++) {
                List<int[]> t = twin(s);
                happens(t, c, way);
                best = Math.max(best, most(t, n - 1));
            }
        }
        return best;
    }

    int mostSteps(int n, int what) {
        if (!in(n, 0, 3) || !in(what, 0, 1)) return -1;
        int best = most(all, n);
        if (what == 0) return best;
        for (int c = 0; c < all.size() && n > 0; c++) {
            for (int way = 0; way <= 2 && !swims(all.get(c)); way++) {
                List<int[]> t = twin(all);
                happens(t, c, way);
                if (most(t, n - 1) == best) return 10 * c + way;
            }
        }
        return -4;
    }

    /** States behind 0, 1, .. n minutes; the last element of each row's extra one tells the way, or -1. */
    private List<List<int[]>> turns(int n, List<Integer> ways) {
        List<List<int[]>> told = new ArrayList<>();
        List<int[]> s = twin(all);
        told.add(twin(s));
        int next = 0;
        for (int i = 0; i < n; i++) {
            boolean someone = false;
            for (int[] p : s) {
                someone |= !swims(p);
            }
            if (!someone) {
                ways.add(-1);
            } else {
                while (swims(s.get(next % s.size()))) {
                    next++;
                }
                int c = next % s.size();
                int way = isReady(s.get(c)) ? 2 : 0;
                happens(s, c, way);
                ways.add(way);
                next = c + 1;
            }
            told.add(twin(s));
        }
        return told;
    }

    private static int swimmers(List<int[]> s) {
        int n = 0;
        for (int[] p : s) {
            n += swims(p) ? 1 : 0;
        }
        return n;
    }

    int byTurns(int n, int what) {
        if (!in(n, 0, 99) || !in(what, 0, 1)) return -1;
        List<Integer> ways = new ArrayList<>();
        List<List<int[]>> told = turns(n, ways);
        if (what == 0) return swimmers(told.get(n));
        int held = 0;
        for (int w : ways) {
            held += w == 0 ? 1 : 0;
        }
        return held;
    }

    int allSwim() {
        List<List<int[]>> told = turns(99, new ArrayList<>());
        for (int m = 0; m <= 99; m++) {
            if (swimmers(told.get(m)) == all.size()) return m;
        }
        return -4;
    }

    // ---- beside one another

    int beside(int i) {
        int n = all.size();
        if (i < -1 || i >= n) return -1;
        int best = -1;
        int[] order = new int[n];
        int codes = 1;
        for (int k = 0; k < n; k++) {
            codes *= n;
        }
        for (int code = 0; code < codes; code++) {
            int[] o = new int[n];
            int seen = 0;
            for (int k = n - 1, rest = code; k >= 0; k--) {
                o[k] = rest % n;
                rest /= n;
                seen |= 1 << o[k];
            }
            int sum = 0;
            for (int k = 1; k < n; k++) {
                sum += passes(all.get(o[k - 1])) * passes(all.get(o[k]));
            }
            if (seen == (1 << n) - 1 && sum > best) {
                best = sum;
                order = o;
            }
        }
        return i == -1 ? best : order[i];
    }

    int helps() {
        int best = -4;
        for (int c = all.size() - 1; c >= 0; c--) {
            if (isReady(all.get(c)) && (best == -4 || helped(c) >= helped(best))) best = c;
        }
        return best;
    }

    private int helped(int c) {
        int beside = (c > 0 ? 1 : 0) + (c < all.size() - 1 ? 1 : 0);
        return passes(all.get(c)) * beside;
    }

    int costs(int c) {
        if (!one(c)) return -1;
        int[] p = all.get(c);
        int[][] m = minutes(p, 0);
        int before = m[p[2]][p[3]];
        int after = m[cut(p[2] - fright(p))][p[3]];
        return before == 999 ? -4 : Math.min(60, after) - before;
    }

    int bands(int c, int a, int v) {
        if (!one(c) || !in(a, 0, 9) || !in(v, 1, 9)) return -1;
        int[] p = all.get(c);
        if (swims(p)) return -3;
        int air = a;
        int trust = p[2];
        int week = 0;
        while (true) {
            if (trust < Math.max(0, needs(p) - air)) return week;
            if (air == 0) return -4;
            air = Math.max(0, air - v);
            trust = cut(trust + 1);
            week++;
        }
    }

    /** Over all patterns of bad luck, each with its weight. */
    long frights(int c, int n, int k, int t, int part) {
        if (!one(c) || !in(n, 0, 8) || !in(k, 0, 7) || !in(t, 2, 20) || !in(part, 0, 1)) return 1000000001L;
        BigInteger good = BigInteger.ZERO;
        for (int luck = 0; luck < 1 << n; luck++) {
            int[] p = all.get(c).clone();
            BigInteger weight = BigInteger.ONE;
            for (int i = 0; i < n; i++) {
                boolean bad = (luck >> i & 1) == 1;
                weight = weight.multiply(BigInteger.valueOf(bad ? 1 : t - 1));
                if (swims(p)) continue;
                if (isReady(p) && !bad) {
                    p[3]++;
                } else {
                    p[2] = cut(p[2] - fright(p));
                }
            }
            if (p[3] - all.get(c)[3] >= k) good = good.add(weight);
        }
        BigInteger whole = BigInteger.valueOf(t).pow(n);
        BigInteger g = good.gcd(whole);
        return (part == 0 ? good : whole).divide(g).longValueExact();
    }

    int was(int d, int v, int f, int what) {
        if (!in(d, 0, 7) || !in(v, 0, 20) || !in(f, 0, 9) || !in(what, 0, 1)) return -1;
        if (shelf[d] == null) return -11;
        if (shelf[d] instanceof Kind) return -12;
        int bits = 0;
        int n = 0;
        for (int k = 0; k < 8; k++) {
            int[] p = {k, f, v, 0, 0};
            boolean so = true;
            for (int i = 0; i < length(d); i++) {
                so &= read(d, i) == p[2];
                p[2] = cut(p[2] + holds(p));
            }
            bits |= so ? 1 << k : 0;
            n += so ? 1 : 0;
        }
        return what == 0 ? bits : n;
    }

    int dare(int a, int b) {
        if (!one(a) || !one(b) || a == b) return -1;
        for (int pair : new int[] {0, 1, 10, 11}) {
            int x = pair / 10;
            int y = pair % 10;
            if (gain(a, x, y) >= gain(a, 1 - x, y) && gain(b, y, x) >= gain(b, 1 - y, x)) return pair;
        }
        return -4;
    }

    private int gain(int c, int own, int other) {
        int[] p = all.get(c);
        if (own == 1) return (other == 1 ? 2 : 1) - (isReady(p) || swims(p) ? 0 : fright(p));
        return other == 1 ? -1 : 0;
    }

    int group(int h, int what) {
        if (!in(h, 0, 30) || !in(what, 0, 1)) return -1;
        int best = 0;
        int most = 0;
        for (int bits = (1 << all.size()) - 1; bits >= 0; bits--) {
            int sum = 0;
            int n = 0;
            for (int c = 0; c < all.size(); c++) {
                if ((bits >> c & 1) == 1) {
                    sum += holds(all.get(c));
                    n++;
                }
            }
            if (sum <= h && n >= most) {
                most = n;
                best = bits;
            }
        }
        return what == 0 ? best : most;
    }

    int forget() {
        for (int w = 0; w <= 9; w++) {
            List<int[]> s = twin(all);
            pause(s, w);
            if (readyBits(s) == 0) return w;
        }
        return -4;
    }

    int coldest(int c, int n) {
        if (!one(c) || !in(n, 0, 60)) return -1;
        int many = 0;
        for (int[] p : all) {
            many += p != all.get(c) && !swims(p) && cut(p[4] + n) > bears(p) ? 1 : 0;
        }
        return many;
    }

    int last() {
        int best = -4;
        for (int c = all.size() - 1; c >= 0; c--) {
            if (best == -4 || all.get(c)[3] * 100 + all.get(c)[2] <= all.get(best)[3] * 100 + all.get(best)[2]) best = c;
        }
        return best;
    }

    long mean(int part) {
        if (!in(part, 0, 1)) return 1000000001L;
        BigInteger above = BigInteger.valueOf(sum(all, 3));
        BigInteger below = BigInteger.valueOf(all.isEmpty() ? 1 : all.size());
        return (part == 0 ? above : below).divide(above.gcd(below)).longValueExact();
    }

    // ---- told minutes

    int forged(int d) {
        if (!in(d, 0, 7)) return -1;
        if (shelf[d] == null) return -11;
        if (shelf[d] instanceof Kind) return -12;
        if (length(d) % 2 == 1) return -13;
        List<int[]> s = twin(all);
        for (int i = 0; i < length(d); i += 2) {
            int c = (int) read(d, i);
            int way = (int) read(d, i + 1);
            if (c < 0 || c >= s.size() || way < 0 || way > 3 || swims(s.get(c))) return i / 2;
            happens(s, c, way);
        }
        return -4;
    }

    int judge(int d, int c) {
        if (!in(d, 0, 7) || !one(c)) return -1;
        if (shelf[d] == null) return -11;
        if (shelf[d] instanceof Kind) return -12;
        long skipped = shelf[d] instanceof byte[] ? Byte.MIN_VALUE
            : shelf[d] instanceof short[] ? Short.MIN_VALUE : Integer.MIN_VALUE;
        List<List<int[]>> told = turns(99, new ArrayList<>());
        for (int i = 0; i < length(d); i++) {
            if (read(d, i) != skipped && read(d, i) != told.get(i).get(c)[2]) return i;
        }
        return -4;
    }

    int weeks(int n, int z, int what) {
        if (!in(n, 1, 20) || !in(what, 0, 1)) return -1;
        if (all.isEmpty()) return -3;
        long seed = z & 0xffffffffL;
        int steps = 0;
        int swallows = 0;
        for (int i = 0; i < n; i++) {
            List<int[]> s = twin(all);
            for (int m = 0; m < 10; m++) {
                seed = (seed * 1103515245L + 12345L) % 4294967296L;
                int c = (int) (seed % 2147483648L / 65536L % s.size());
                seed = (seed * 1103515245L + 12345L) % 4294967296L;
                int way = (int) (seed % 2147483648L / 65536L % 4);
                if (!swims(s.get(c))) swallows += happens(s, c, way);
            }
            steps += sum(s, 3) - sum(all, 3);
        }
        return what == 0 ? steps : swallows;
    }

    // ---- the image, what is told

    int image() {
        imaged = twin(all);
        imagedMinute = minute;
        return minute;
    }

    int restore() {
        if (imaged == null) return -3;
        all = twin(imaged);
        minute = imagedMinute;
        return minute;
    }

    int count(int what) {
        switch (what) {
            case 0: return all.size();
            case 1: return minute;
            case 2: return sum(all, 2);
            case 3: return sum(all, 3);
            case 4: return sum(all, 4);
            case 5: {
                int bits = 0;
                for (int c = 0; c < all.size(); c++) {
                    bits += swims(all.get(c)) ? 1 << c : 0;
                }
                return bits;
            }
            default: return -1;
        }
    }

    // ---- shelves

    private static final class Kind {
        final int k;
        final int f;

        Kind(int k, int f) {
            this.k = k;
            this.f = f;
        }
    }

    private int length(int d) {
        return java.lang.reflect.Array.getLength(shelf[d]);
    }

    private long read(int d, int i) {
        return java.lang.reflect.Array.getLong(shelf[d], i);
    }

    int keep(int d, int what, int k, int figure) {
        if (!in(d, 0, 7) || !in(what, 0, 1)) return -1;
        if (what == 1 && (!in(k, 0, 7) || !in(figure, 0, 9))) return -1;
        shelf[d] = what == 0 ? null : new Kind(k, figure);
        return 0;
    }

    int row(int d, int sort, int n) {
        if (!in(d, 0, 7) || !in(sort, 0, 2) || n > 100) return -1;
        if (n < 0) return -14;
        shelf[d] = sort == 0 ? new byte[n] : sort == 1 ? new short[n] : new int[n];
        return 0;
    }

    int put(int d, int i, int v) {
        if (!in(d, 0, 7)) return -1;
        if (shelf[d] == null) return -11;
        if (shelf[d] instanceof Kind) return -12;
        if (!in(i, 0, length(d) - 1)) return -13;
        if (shelf[d] instanceof byte[]) ((byte[]) shelf[d])[i] = (byte) v;
        if (shelf[d] instanceof short[]) ((short[]) shelf[d])[i] = (short) v;
        if (shelf[d] instanceof int[]) ((int[]) shelf[d])[i] = v;
        return 0;
    }

    String element(int d, int i) {
        if (!in(d, 0, 7)) return "IAE";
        if (shelf[d] == null || shelf[d] instanceof Kind || !in(i, 0, length(d) - 1)) return "ISE";
        return Long.toString(read(d, i));
    }

    int copy(int d, int i, int e, int j, int n) {
        if (!in(d, 0, 7) || !in(e, 0, 7)) return -1;
        if (shelf[d] == null || shelf[e] == null) return -11;
        if (shelf[d] instanceof Kind || shelf[d].getClass() != shelf[e].getClass()) return -12;
        long from = (long) i + n;
        long to = (long) j + n;
        if (i < 0 || j < 0 || n < 0 || from > length(d) || to > length(e)) return -13;
        long[] taken = new long[n];
        for (int k = 0; k < n; k++) {
            taken[k] = read(d, i + k);
        }
        for (int k = 0; k < n; k++) {
            put(e, j + k, (int) taken[k]);
        }
        return n;
    }

    int cost(int d) {
        if (!in(d, 0, 7)) return -1;
        if (shelf[d] == null) return -11;
        if (!(shelf[d] instanceof Kind)) return -12;
        return price(((Kind) shelf[d]).k, ((Kind) shelf[d]).f);
    }

    int toss(int d) {
        if (cost(d) < 0) return cost(d);
        Kind k = (Kind) shelf[d];
        if (k.f == 0 || k.k == 2 || k.k == 3 || k.k == 6) return -15;
        return k.k == 0 ? k.f : k.k == 7 ? 200 + cost(d) : 100 + k.f;
    }
}
