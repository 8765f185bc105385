import java.util.ArrayList;
import java.util.Arrays;
import java.util.List;
import java.util.Random;

/**
 * Long runs of drawn calls, each answered by BellMilk and by a second, slower telling of the document
 * (every question is asked of a whole copy of the hill, every set is tried out).
 */
public final class ModelTest {
    static final int LOW = -1000001;
    static final int BEYOND = LOW, FULL = LOW - 1, KIND = LOW - 2, NONE = LOW - 3, STATE = LOW - 4,
            MISSING = LOW - 5, SIZE = LOW - 6;

    static final class Cow {
        int[] v = {0, 0, 0, 3, 0, 0, 0};

        Cow(int kind, int pasture) {
            v[0] = kind;
            v[1] = pasture;
        }

        Cow(Cow o) {
            v = o.v.clone();
        }
    }

    static final class Hill {
        int[] grass = new int[12];
        int[] pails = new int[12];
        int grows = 2, thunder = 0, hour = 0, z = 1;
        List<Cow> cows = new ArrayList<>();
        Integer[] spots = new Integer[10];
        int moves = 0;

        Hill() {
            Arrays.fill(grass, 50);
        }

        Hill(Hill o) {
            grass = o.grass.clone();
            pails = o.pails.clone();
            grows = o.grows;
            thunder = o.thunder;
            hour = o.hour;
            z = o.z;
            for (Cow c : o.cows) cows.add(new Cow(c));
            spots = o.spots.clone();
        }

        int rings(Cow c, int kind) {
            switch (kind) {
                case 0: return c.v[3] + grass[c.v[1]] / 10;
                case 1: return rings(c, 0) / 2;
                case 2: return rings(c, 0) + 2;
                case 3: {
                    int r = rings(c, 2);
                    for (Cow o : cows) if (o != c && o.v[1] == c.v[1]) r--;
                    return Math.max(r, 0);
                }
                case 4: return rings(c, 3) + thunder / 10;
                case 5: return Math.max(0, rings(c, 0) - c.v[4] / 100);
                default: return rings(c, 1) + 1;
            }
        }

        int eats(int kind) {
            switch (kind) {
                case 0: return 5;
                case 1: return 2;
                case 2: return eats(0);
                case 3: return eats(2) - 2;
                case 4: return 0;
                case 5: return eats(0);
                default: return eats(1);
            }
        }

        int gives(Cow c, int kind) {
            switch (kind) {
                case 0: return c.v[5] / 4;
                case 1: return gives(c, 0) / 2;
                case 2: return gives(c, 0) + c.v[5] / 8;
                case 3: return Math.max(0, gives(c, 2) - 3);
                case 4: return gives(c, 3) + 5;
                case 5: return gives(c, 0) / 2;
                default: return gives(c, 1);
            }
        }

        int beside(Cow c) {
            for (int i = 0; i < cows.size(); i++) {
                Cow o = cows.get(i);
                if (o != c && o.v[1] == c.v[1] && o.v[2] != c.v[2]) return i;
            }
            return -1;
        }

        void pourIn(int tone, int milk) {
            for (int i = 0; i < milk; i++) if (pails[tone] < 99999) pails[tone]++;
        }

        Hill hours(int n) {
            for (int i = 0; i < n; i++) hour();
            return this;
        }

        void hour() {
            for (Cow c : cows) {
                if (c.v[6] == 0) c.v[5] = Math.min(9999, c.v[5] + rings(c, c.v[0]));
                int want = eats(c.v[0]);
                int there = grass[c.v[1]];
                grass[c.v[1]] -= Math.min(want, there);
                if (there < want) {
                    c.v[1] = c.v[1] == 11 ? 0 : c.v[1] + 1;
                    moves++;
                }
                if (c.v[4] < 999) c.v[4]++;
            }
            for (int p = 0; p < 12; p++) grass[p] = Math.min(99, grass[p] + grows);
            if (hour < 99999) hour++;
            if (hour % 6 != 0) return;
            for (Cow c : cows) {
                int g = gives(c, c.v[0]);
                int loss = g * thunder / 100;
                int milk = g - loss;
                int b = beside(c);
                if (b >= 0) {
                    pourIn((c.v[2] + cows.get(b).v[2]) % 12, milk / 3);
                    pourIn(c.v[2], milk - milk / 3);
                } else {
                    pourIn(c.v[2], milk);
                }
                c.v[5] = 0;
            }
        }

        int all() {
            return Arrays.stream(pails).sum();
        }

        int draw() {
            z = z * 1103515245 + 12345;
            return z >>> 8;
        }
    }

    static final class Model {
        Hill h = new Hill();
        Hill kept = null;
        List<Integer> tape = new ArrayList<>();
        int[][] sheets = new int[4][];
        int[] bits = new int[4];
        long[] told = new long[7];

        static boolean in(int v, int lo, int hi) {
            return lo <= v && v <= hi;
        }

        Hill h() {
            return new Hill(h);
        }

        boolean isCow(int c) {
            return in(c, 0, h.cows.size() - 1);
        }

        long call(String name, int[] a) {
            boolean[] finding = {false};
            long r = answer(name, a, finding);
            if (finding[0]) told[(int) (LOW - r)]++;
            return r;
        }

        long answer(String name, int[] a, boolean[] f) {
            long r = act(name, a, f);
            return r;
        }

        static long find(boolean[] f, int finding) {
            f[0] = true;
            return finding;
        }

        long act(String name, int[] a, boolean[] f) {
            switch (name) {
                case "grass": {
                    if (!in(a[0], 0, 11) || !in(a[1], 0, 99)) return find(f, BEYOND);
                    int was = h.grass[a[0]];
                    h.grass[a[0]] = a[1];
                    return was;
                }
                case "pasture": {
                    if (!in(a[0], 0, 11) || !in(a[1], 0, 1)) return find(f, BEYOND);
                    if (a[1] == 0) return h.grass[a[0]];
                    long set = 0;
                    for (int i = 0; i < h.cows.size(); i++) if (h.cows.get(i).v[1] == a[0]) set += 1L << i;
                    return set;
                }
                case "weather": {
                    if (a[0] == 0 && in(a[1], 0, 20)) {
                        int was = h.grows;
                        h.grows = a[1];
                        return was;
                    }
                    if (a[0] == 1 && in(a[1], 0, 99)) {
                        int was = h.thunder;
                        h.thunder = a[1];
                        return was;
                    }
                    return find(f, BEYOND);
                }
                case "pail":
                    return in(a[0], 0, 11) ? h.pails[a[0]] : find(f, BEYOND);
                case "pour": {
                    if (!in(a[0], 0, 11)) return find(f, BEYOND);
                    int had = h.pails[a[0]];
                    h.pails[a[0]] = 0;
                    return had;
                }
                case "cow":
                    if (!in(a[0], 0, 6) || !in(a[1], 0, 11)) return find(f, BEYOND);
                    if (h.cows.size() == 8) return find(f, FULL);
                    h.cows.add(new Cow(a[0], a[1]));
                    return h.cows.size() - 1;
                case "of": {
                    if (!isCow(a[0]) || !in(a[1], 0, 10)) return find(f, BEYOND);
                    Cow c = h.cows.get(a[0]);
                    if (a[1] < 7) return c.v[a[1]];
                    return a[1] == 7 ? h.rings(c, c.v[0]) : a[1] == 8 ? h.eats(c.v[0])
                            : a[1] == 9 ? h.gives(c, c.v[0]) : h.beside(c);
                }
                case "change": {
                    if (!isCow(a[0]) || !in(a[1], 0, 6)) return find(f, BEYOND);
                    int[] most = {6, 11, 11, 9, 999, 9999, 1};
                    if (!in(a[2], 0, most[a[1]])) return find(f, BEYOND);
                    int was = h.cows.get(a[0]).v[a[1]];
                    h.cows.get(a[0]).v[a[1]] = a[2];
                    return was;
                }
                case "go":
                    if (!in(a[0], 1, 60)) return find(f, BEYOND);
                    if (h.hour + a[0] > 99999) return find(f, STATE);
                    return h.hours(a[0]).all();
                case "now":
                    return now(a[0], f);
                default:
                    return ahead(name, a, f);
            }
        }

        long now(int what, boolean[] f) {
            long set = 0;
            switch (what) {
                case 0: return h.hour;
                case 1: return h.all();
                case 2: return h.cows.stream().mapToInt(c -> c.v[5]).sum();
                case 3:
                    for (int i = 0; i < h.cows.size(); i++) if (h.cows.get(i).v[6] == 1) set += 1L << i;
                    return set;
                case 4: return Arrays.stream(h.grass).sum();
                case 5:
                    for (int p = 0; p < 12; p++) {
                        int at = p;
                        if (h.cows.stream().anyMatch(c -> c.v[1] == at)) set += 1L << p;
                    }
                    return set;
                case 6:
                    for (int t = 0; t < 12; t++) if (h.pails[t] != 0) set += 1L << t;
                    return set;
                default: return find(f, BEYOND);
            }
        }

        long ahead(String name, int[] a, boolean[] f) {
            switch (name) {
                case "ahead":
                    if (!in(a[0], 0, 11) || !in(a[1], 0, 100)) return find(f, BEYOND);
                    return h().hours(a[1]).pails[a[0]];
                case "where":
                    if (!isCow(a[0]) || !(a[1] == 1 || a[1] == 5) || !in(a[2], 0, 100)) return find(f, BEYOND);
                    return h().hours(a[2]).cows.get(a[0]).v[a[1]];
                case "when":
                    if (!in(a[0], 0, 11) || !in(a[1], 0, 99999)) return find(f, BEYOND);
                    for (int n = 0; n <= 200; n++) if (h().hours(n).pails[a[0]] >= a[1]) return n;
                    return find(f, NONE);
                case "meet":
                    if (!isCow(a[0]) || !isCow(a[1]) || a[0] == a[1]) return find(f, BEYOND);
                    for (int n = 0; n <= 200; n++) {
                        Hill x = h().hours(n);
                        if (x.cows.get(a[0]).v[1] == x.cows.get(a[1]).v[1]) return n;
                    }
                    return find(f, NONE);
                case "bare":
                    for (int n = 0; n <= 100; n++) {
                        if (Arrays.stream(h().hours(n).grass).min().getAsInt() == 0) return n;
                    }
                    return find(f, NONE);
                case "graze":
                    if (!isCow(a[0]) || !in(a[1], 0, 40)) return find(f, BEYOND);
                    return best(a[0], 1, 11, a[1], -1);
                case "toneFor":
                    if (!isCow(a[0]) || !in(a[1], 0, 11) || !in(a[2], 0, 40)) return find(f, BEYOND);
                    return best(a[0], 2, 11, a[2], a[1]);
                case "kindFor":
                    if (!isCow(a[0]) || !in(a[1], 0, 40)) return find(f, BEYOND);
                    return best(a[0], 0, 6, a[1], -1);
                case "swingsFor":
                    if (!isCow(a[0]) || !in(a[1], 0, 9999) || !in(a[2], 0, 40)) return find(f, BEYOND);
                    for (int s = 0; s <= 9; s++) {
                        Hill x = h();
                        x.cows.get(a[0]).v[3] = s;
                        if (x.hours(a[2]).pails[x.cows.get(a[0]).v[2]] >= a[1]) return s;
                    }
                    return find(f, NONE);
                case "growsFor":
                    if (!in(a[0], 0, 40)) return find(f, BEYOND);
                    for (int g = 0; g <= 20; g++) {
                        Hill x = h();
                        x.grows = g;
                        if (x.hours(a[0]).moves == 0) return g;
                    }
                    return find(f, NONE);
                case "thunderFor":
                    if (!in(a[0], 0, 9999) || !in(a[1], 0, 40)) return find(f, BEYOND);
                    for (int t = 99; t >= 0; t--) {
                        Hill x = h();
                        x.thunder = t;
                        if (x.hours(a[1]).all() >= a[0]) return t;
                    }
                    return find(f, NONE);
                case "pair":
                    if (!in(a[0], 0, 11)) return find(f, BEYOND);
                    for (int i = 0; i < 64; i++) {
                        int lo = i / 8, hi = i % 8;
                        if (lo >= hi || hi >= h.cows.size()) continue;
                        int s = h.cows.get(lo).v[2], t = h.cows.get(hi).v[2];
                        if (s != t && (s + t) % 12 == a[0]) return i;
                    }
                    return find(f, NONE);
                default:
                    return thin(name, a, f);
            }
        }

        int best(int cow, int what, int most, int n, int pail) {
            int[] got = new int[most + 1];
            for (int v = 0; v <= most; v++) {
                Hill x = h();
                x.cows.get(cow).v[what] = v;
                x.hours(n);
                got[v] = pail < 0 ? x.all() : x.pails[pail];
            }
            int max = Arrays.stream(got).max().getAsInt();
            for (int v = 0; v <= most; v++) if (got[v] == max) return v;
            return -1;
        }

        long thin(String name, int[] a, boolean[] f) {
            switch (name) {
                case "muffle":
                    if (!in(a[0], 0, 11) || !in(a[1], 0, 9999) || !in(a[2], 0, 18)) return find(f, BEYOND);
                    for (int size = 0; size <= 8; size++) {
                        for (int set = 0; set < 256; set++) {
                            if (Integer.bitCount(set) != size || set >> h.cows.size() != 0) continue;
                            Hill x = h();
                            for (int c = 0; c < 8; c++) if ((set >> c & 1) != 0) x.cows.get(c).v[6] = 1;
                            if (x.hours(a[2]).pails[a[0]] <= a[1]) return set;
                        }
                    }
                    return find(f, NONE);
                case "fits": {
                    if (!in(a[0], 0, 3)) return find(f, BEYOND);
                    if (sheets[a[0]] == null) return find(f, MISSING);
                    if (!in(a[1], 0, 11)) return find(f, BEYOND);
                    long set = 0;
                    for (int c = 0; c < h.cows.size(); c++) {
                        Hill x = h();
                        x.cows.get(c).v[6] ^= 1;
                        boolean ok = true;
                        for (int told : sheets[a[0]]) {
                            ok &= told == -1 || told == x.pails[a[1]];
                            x.hours(6);
                        }
                        if (ok) set += 1L << c;
                    }
                    return set;
                }
                case "kinds": {
                    if (!in(a[0], 0, 3)) return find(f, BEYOND);
                    if (sheets[a[0]] == null) return find(f, MISSING);
                    if (!isCow(a[1])) return find(f, BEYOND);
                    long set = 0;
                    for (int k = 0; k < 7; k++) {
                        Hill x = h();
                        x.cows.get(a[1]).v[0] = k;
                        boolean ok = true;
                        for (int told : sheets[a[0]]) {
                            ok &= told == -1 || told == x.cows.get(a[1]).v[5];
                            x.hour();
                        }
                        if (ok) set += 1L << k;
                    }
                    return set;
                }
                case "storms":
                    if (!in(a[0], 1, 20)) return find(f, BEYOND);
                    if (h.hour + a[0] > 99999) return find(f, STATE);
                    for (int i = 0; i < a[0]; i++) {
                        h.thunder = h.draw() % 100;
                        int c = h.draw() % 8;
                        if (isCow(c)) h.cows.get(c).v[1] = (h.cows.get(c).v[1] + 1) % 12;
                        h.hour();
                    }
                    return h.all();
                case "odds": {
                    if (!in(a[0], 0, 18) || !in(a[1], 0, 1)) return find(f, BEYOND);
                    java.math.BigInteger up = java.math.BigInteger.valueOf(
                            h.cows.stream().filter(c -> c.v[6] == 0).count()).pow(a[0]);
                    java.math.BigInteger down = java.math.BigInteger.valueOf(8).pow(a[0]);
                    java.math.BigInteger g = up.gcd(down);
                    return (a[1] == 0 ? up : down).divide(g).longValueExact();
                }
                case "seed": {
                    int was = h.z;
                    h.z = a[0];
                    return was;
                }
                default:
                    return texts(name, a, f);
            }
        }

        long texts(String name, int[] a, boolean[] f) {
            switch (name) {
                case "feed":
                    if (!in(a[1], 1, 4)) return find(f, BEYOND);
                    if (tape.size() + a[1] > 120) return find(f, FULL);
                    for (int i = a[1]; i > 0; i--) tape.add((a[0] >> (8 * (i - 1))) & 0xff);
                    return tape.size();
                case "wipe": {
                    int had = tape.size();
                    tape.clear();
                    return had;
                }
                case "text": {
                    Hill x = h();
                    Text t = new Text(tape, x);
                    tape.clear();
                    if (t.fault >= 0) return -1 - t.fault;
                    h = x;
                    return t.items;
                }
                case "hold":
                    if (!in(a[0], 0, 9) || !(a[1] == -1 || isCow(a[1]))) return find(f, BEYOND);
                    h.spots[a[0]] = a[1] == -1 ? null : a[1];
                    return 1;
                case "as": {
                    if (!in(a[0], 0, 9) || !in(a[1], 0, 6)) return find(f, BEYOND);
                    if (h.spots[a[0]] == null) return find(f, MISSING);
                    int c = h.spots[a[0]];
                    String[] up = {"0", "01", "02", "023", "0234", "05", "016"};
                    return up[h.cows.get(c).v[0]].contains("" + a[1]) ? c : find(f, KIND);
                }
                default:
                    return sheets(name, a, f);
            }
        }

        long sheets(String name, int[] a, boolean[] f) {
            switch (name) {
                case "sheet":
                    if (!in(a[0], 0, 3) || !Arrays.asList(0, 8, 16, 32).contains(a[1])) return find(f, BEYOND);
                    if (a[2] < 0) return find(f, SIZE);
                    if (a[2] > 40) return find(f, BEYOND);
                    bits[a[0]] = a[1];
                    sheets[a[0]] = a[1] == 0 ? null : new int[a[2]];
                    return a[1] == 0 ? 0 : a[2];
                case "write":
                    if (!in(a[0], 0, 3)) return find(f, BEYOND);
                    if (sheets[a[0]] == null) return find(f, MISSING);
                    if (!in(a[1], 0, sheets[a[0]].length - 1)) return find(f, BEYOND);
                    sheets[a[0]][a[1]] = a[2] << (32 - bits[a[0]]) >> (32 - bits[a[0]]);
                    return 1;
                case "copy": {
                    if (!in(a[0], 0, 3) || !in(a[2], 0, 3)) return find(f, BEYOND);
                    if (sheets[a[0]] == null || sheets[a[2]] == null) return find(f, MISSING);
                    if (bits[a[0]] != bits[a[2]]) return find(f, KIND);
                    if (a[1] < 0 || a[3] < 0 || a[4] < 0 || (long) a[1] + a[4] > sheets[a[0]].length
                            || (long) a[3] + a[4] > sheets[a[2]].length) return find(f, BEYOND);
                    int[] were = sheets[a[0]].clone();
                    for (int i = 0; i < a[4]; i++) sheets[a[2]][a[3] + i] = were[a[1] + i];
                    return a[4];
                }
                case "load": {
                    if (!in(a[0], 0, 3)) return find(f, BEYOND);
                    if (sheets[a[0]] == null) return find(f, MISSING);
                    int n = 0;
                    while (n < 12 && n < sheets[a[0]].length && in(sheets[a[0]][n], 0, 99)) {
                        h.grass[n] = sheets[a[0]][n];
                        n++;
                    }
                    return n;
                }
                case "judge": {
                    if (!in(a[0], 0, 3)) return find(f, BEYOND);
                    if (sheets[a[0]] == null) return find(f, MISSING);
                    int[] s = sheets[a[0]];
                    for (int i = 0; i < s.length; i++) if (i > 11 || s[i] != h.pails[i]) return i + 1;
                    return 0;
                }
                case "image":
                    kept = h();
                    return 1;
                case "undo":
                    if (kept == null) return find(f, NONE);
                    h = new Hill(kept);
                    return h.hour;
                case "tear": {
                    int was = kept == null ? 0 : 1;
                    kept = null;
                    return was;
                }
                case "count":
                    switch (a[0]) {
                        case 0: return h.hour;
                        case 1: return h.cows.size();
                        case 2: return h.cows.stream().filter(c -> c.v[6] == 1).count();
                        case 3: return now(2, f);
                        case 4: return h.all();
                        case 5: return tape.size();
                        case 6: return h.z;
                        case 7: return Arrays.stream(h.spots).filter(s -> s != null).count();
                        default: return find(f, BEYOND);
                    }
                case "status":
                    if (!in(a[0], -1, 6)) return find(f, BEYOND);
                    return a[0] == -1 ? Arrays.stream(told).sum() : told[a[0]];
                default:
                    throw new IllegalStateException(name);
            }
        }
    }

    /** All tokens first, then the items; the place of the first token that can't stand is the fault. */
    static final class Text {
        final List<String> tokens = new ArrayList<>();
        final List<Integer> places = new ArrayList<>();
        int at = 0;
        int fault = -1;
        int items = 0;

        Text(List<Integer> tape, Hill h) {
            StringBuilder b = new StringBuilder();
            for (int c : tape) b.append((char) c);
            java.util.regex.Matcher m = java.util.regex.Pattern.compile("[a-z]+|[0-9]+|[^ ]", java.util.regex.Pattern.DOTALL).matcher(b);
            while (m.find()) {
                tokens.add(m.group());
                places.add(m.start());
            }
            tokens.add("");
            places.add(tape.size());
            boolean ok = item(h);
            while (ok && !peek().isEmpty()) {
                ok = peek().equals(";");
                if (ok) {
                    at++;
                    ok = item(h);
                }
            }
            if (!ok) fault = places.get(at);
        }

        String peek() {
            return tokens.get(at);
        }

        boolean number(int[] out, int i, int most) {
            if (!peek().matches("[0-9]+")) return false;
            java.math.BigInteger n = new java.math.BigInteger(peek());
            if (n.compareTo(java.math.BigInteger.valueOf(most)) > 0) return false;
            out[i] = n.intValue();
            at++;
            return true;
        }

        boolean item(Hill h) {
            int kind = Arrays.asList("cow", "calf", "alto", "bride", "pass", "cracked", "kid").indexOf(peek());
            int[] out = new int[2];
            if (kind >= 0) {
                if (h.cows.size() == 8) return false;
                at++;
                Cow c = new Cow(kind, 0);
                h.cows.add(c);
                String[] words = {"on", "tone", "swings"};
                int[] most = {11, 11, 9};
                for (int i = 0; i < 3; i++) {
                    if (!peek().equals(words[i])) continue;
                    at++;
                    if (!number(c.v, i + 1, most[i])) return false;
                }
                if (peek().equals("muffled")) {
                    at++;
                    c.v[6] = 1;
                }
                items++;
                return true;
            }
            String word = peek();
            if (!Arrays.asList("grass", "grows", "thunder").contains(word)) return false;
            at++;
            if (!number(out, 0, word.equals("grass") ? 11 : word.equals("grows") ? 20 : 99)) return false;
            if (word.equals("grass")) {
                if (!number(out, 1, 99)) return false;
                h.grass[out[0]] = out[1];
            } else if (word.equals("grows")) {
                h.grows = out[0];
            } else {
                h.thunder = out[0];
            }
            items++;
            return true;
        }
    }

    static long real(BellMilk x, String name, int[] a) {
        switch (name) {
            case "grass": return x.grass(a[0], a[1]);
            case "pasture": return x.pasture(a[0], a[1]);
            case "weather": return x.weather(a[0], a[1]);
            case "pail": return x.pail(a[0]);
            case "pour": return x.pour(a[0]);
            case "cow": return x.cow(a[0], a[1]);
            case "of": return x.of(a[0], a[1]);
            case "change": return x.change(a[0], a[1], a[2]);
            case "go": return x.go(a[0]);
            case "now": return x.now(a[0]);
            case "ahead": return x.ahead(a[0], a[1]);
            case "where": return x.where(a[0], a[1], a[2]);
            case "when": return x.when(a[0], a[1]);
            case "meet": return x.meet(a[0], a[1]);
            case "bare": return x.bare();
            case "graze": return x.graze(a[0], a[1]);
            case "toneFor": return x.toneFor(a[0], a[1], a[2]);
            case "kindFor": return x.kindFor(a[0], a[1]);
            case "swingsFor": return x.swingsFor(a[0], a[1], a[2]);
            case "growsFor": return x.growsFor(a[0]);
            case "thunderFor": return x.thunderFor(a[0], a[1]);
            case "pair": return x.pair(a[0]);
            case "muffle": return x.muffle(a[0], a[1], a[2]);
            case "fits": return x.fits(a[0], a[1]);
            case "kinds": return x.kinds(a[0], a[1]);
            case "storms": return x.storms(a[0]);
            case "odds": return x.odds(a[0], a[1]);
            case "seed": return x.seed(a[0]);
            case "feed": return x.feed(a[0], a[1]);
            case "wipe": return x.wipe();
            case "text": return x.text();
            case "hold": return x.hold(a[0], a[1]);
            case "as": return x.as(a[0], a[1]);
            case "sheet": return x.sheet(a[0], a[1], a[2]);
            case "write": return x.write(a[0], a[1], a[2]);
            case "copy": return x.copy(a[0], a[1], a[2], a[3], a[4]);
            case "load": return x.load(a[0]);
            case "judge": return x.judge(a[0]);
            case "image": return x.image();
            case "undo": return x.undo();
            case "tear": return x.tear();
            case "count": return x.count(a[0]);
            case "status": return x.status(a[0]);
            default: throw new IllegalStateException(name);
        }
    }

    /** Each call with the usual lowest and highest value of its arguments. */
    static final String[] CALLS = {
        "grass 0 11 0 99", "pasture 0 11 0 1", "weather 0 0 0 20", "weather 1 1 0 99", "pail 0 11", "pour 0 11",
        "cow 0 6 0 11", "of 0 7 0 10", "change 0 7 0 0 0 6", "change 0 7 1 1 0 11", "change 0 7 1 1 0 2",
        "change 0 7 2 2 0 11", "change 0 7 3 3 0 9", "change 0 7 4 4 0 999", "change 0 7 5 5 0 9999",
        "change 0 7 5 5 0 60", "change 0 7 6 6 0 1", "go 1 60", "go 1 7", "now 0 6", "ahead 0 11 0 100",
        "where 0 7 1 1 0 100", "where 0 7 5 5 0 100", "when 0 11 0 99999", "when 0 11 0 300", "meet 0 7 0 7", "bare",
        "graze 0 7 0 40", "toneFor 0 7 0 11 0 40", "kindFor 0 7 0 40", "swingsFor 0 7 0 9999 0 40",
        "swingsFor 0 7 0 80 0 40", "growsFor 0 40", "thunderFor 0 9999 0 40", "thunderFor 0 300 0 40", "pair 0 11",
        "muffle 0 11 0 9999 0 18", "muffle 0 3 0 60 0 18", "fits 0 3 0 11", "kinds 0 3 0 7", "storms 1 20",
        "odds 0 18 0 1", "seed -2147483648 2147483647", "feed 0 2147483647 1 4", "wipe", "text", "hold 0 9 -1 7",
        "as 0 9 0 6", "sheet 0 3 8 8 0 40", "sheet 0 3 16 16 0 40", "sheet 0 3 32 32 0 14", "sheet 0 3 0 0 0 40",
        "write 0 3 0 39 -1 120", "write 0 3 0 13 -2147483648 2147483647", "copy 0 3 0 20 0 3 0 20 0 20",
        "copy 1 1 0 20 1 1 0 20 0 20", "load 0 3", "judge 0 3", "image", "undo", "tear", "count 0 7", "status -1 6"
    };
    static final int[] WILD = {-1, -2, 12, 13, 7, 8, 10, 11, 21, 19, 41, 61, 100, 101, 201, 1000, 10000, 100000,
        Integer.MAX_VALUE, Integer.MIN_VALUE, Integer.MAX_VALUE - 3, 99999, 2, 3, 4, 5, 9, 24, 64};
    static final String[] WORDS = {"cow", "calf", "alto", "bride", "pass", "cracked", "kid", "on", "tone", "swings",
        "muffled", "grass", "grows", "thunder", ";", ";", "0", "3", "9", "10", "11", "12", "20", "21", "99", "100",
        "999", "1000", "007", "4294967297", "Cow", "?", "\u00e9", "\t", "cows", "o"};

    final Random r;
    final BellMilk x = new BellMilk();
    final Model m = new Model();
    final StringBuilder trace = new StringBuilder();
    int calls = 0;
    int wrong = 0;

    ModelTest(long seed) {
        r = new Random(seed);
    }

    static int drawn(Random r, int lo, int hi) {
        return (int) (lo + (long) (r.nextDouble() * ((long) hi - lo + 1)));
    }

    long one(String name, int... a) {
        calls++;
        String call = name + Arrays.toString(a);
        long want = m.call(name, a);
        long got = real(x, name, a);
        trace.append(call).append(" = ").append(want).append('\n');
        if (got != want) {
            wrong++;
            System.out.println("call " + calls + ": " + call + " answered " + got + ", due is " + want);
        }
        return want;
    }

    void drawnCall() {
        String[] parts = CALLS[r.nextInt(CALLS.length)].split(" ");
        int[] a = new int[(parts.length - 1) / 2];
        for (int i = 0; i < a.length; i++) {
            a[i] = drawn(r, Integer.parseInt(parts[1 + 2 * i]), Integer.parseInt(parts[2 + 2 * i]));
        }
        if (a.length > 0 && r.nextInt(10) == 0) a[r.nextInt(a.length)] = WILD[r.nextInt(WILD.length)];
        one(parts[0], a);
    }

    String goodItem() {
        String[] kinds = {"cow", "calf", "alto", "bride", "pass", "cracked", "kid"};
        switch (r.nextInt(5)) {
            case 0: return "grass " + r.nextInt(12) + " " + r.nextInt(100);
            case 1: return r.nextBoolean() ? "grows " + r.nextInt(21) : "thunder " + r.nextInt(100);
            default:
                return kinds[r.nextInt(7)] + (r.nextBoolean() ? " on " + r.nextInt(3) : "")
                        + (r.nextBoolean() ? " tone " + r.nextInt(12) : "")
                        + (r.nextBoolean() ? " swings" + r.nextInt(10) : "") + (r.nextInt(4) == 0 ? " muffled" : "");
        }
    }

    void drawnText() {
        StringBuilder b = new StringBuilder();
        int items = 1 + r.nextInt(4);
        for (int i = 0; i < items; i++) {
            if (i > 0) b.append(r.nextBoolean() ? "; " : ";");
            b.append(goodItem());
        }
        if (r.nextInt(2) == 0) {
            String word = WORDS[r.nextInt(WORDS.length)];
            int place = r.nextInt(b.length() + 1);
            if (r.nextBoolean()) b.insert(place, " " + word + " ");
            else b.replace(place, Math.min(b.length(), place + r.nextInt(5)), r.nextBoolean() ? word : "");
        }
        if (r.nextInt(8) == 0) b.append("  ");
        tell(b.toString());
    }

    void tell(String text) {
        int i = 0;
        while (i < text.length()) {
            int n = Math.min(text.length() - i, 1 + r.nextInt(4));
            int packed = r.nextInt();
            for (int k = 0; k < n; k++) packed = packed << 8 | text.charAt(i + k);
            one("feed", packed, n);
            i += n;
        }
        one("text");
    }

    /** A sheet that tells what will be (of one cow turned, or of one kind), so that sets are not empty. */
    void drawnSheet() {
        if (m.h.cows.isEmpty()) return;
        int s = r.nextInt(4);
        int n = r.nextInt(14);
        int who = r.nextInt(m.h.cows.size());
        int tone = r.nextBoolean() ? r.nextInt(12) : m.h.cows.get(who).v[2];
        boolean pails = r.nextBoolean();
        one("sheet", s, r.nextBoolean() ? 32 : 16, n);
        Hill x = m.h();
        if (pails) x.cows.get(who).v[6] ^= 1;
        else x.cows.get(who).v[0] = r.nextInt(7);
        for (int i = 0; i < n; i++) {
            int v = pails ? x.pails[tone] : x.cows.get(who).v[5];
            one("write", s, i, r.nextInt(6) == 0 ? -1 : v);
            x.hours(pails ? 6 : 1);
        }
        if (pails) one("fits", s, tone);
        else one("kinds", s, who);
        if (r.nextInt(3) == 0) {
            one("sheet", s, 32, 12);
            int off = r.nextInt(20);
            for (int i = 0; i < 12; i++) one("write", s, i, m.h.pails[i] + (i == off ? 1 : 0));
            one("judge", s);
        }
    }

    void look() {
        for (int t = 0; t < 12; t++) {
            one("pail", t);
            one("pasture", t, 0);
        }
        for (int w = -1; w < 8; w++) {
            one("now", w);
            one("count", w);
            one("status", w);
        }
        for (int c = 0; c < m.h.cows.size(); c++) for (int w = 0; w < 11; w++) one("of", c, w);
    }

    int run() {
        int herd = r.nextInt(4);
        while (calls < 300) {
            if (r.nextInt(24) == 0 || (herd > 0 && calls < 20)) drawnText();
            else if (r.nextInt(24) == 0) drawnSheet();
            else drawnCall();
            if (wrong > 0) break;
        }
        look();
        if (wrong > 0) System.out.println(trace);
        return wrong;
    }

    public static void main(String[] args) {
        int runs = args.length > 0 ? Integer.parseInt(args[0]) : 400;
        long first = args.length > 1 ? Long.parseLong(args[1]) : 1;
        for (int i = 0; i < runs; i++) {
            int wrong = new ModelTest(first + i).run();
            if (wrong > 0) {
                System.out.println("run " + (first + i) + ": " + wrong + " answers are not as due");
                System.exit(1);
            }
        }
        System.out.println("all answers are as due");
    }
}
