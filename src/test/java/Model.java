import java.util.ArrayList;
import java.util.Arrays;
import java.util.HashMap;
import java.util.List;
import java.util.Map;

/**
 * The document once more, written from its words alone and by other means than GateMinds (records that are
 * thrown away, sets tried one by one, a reader that keeps a stack), so that one slip is unlikely in both.
 */
final class Model {
    static final class Refusal extends RuntimeException {
        private static final long serialVersionUID = 1L;
        final int k;
        Refusal(int k) { super(null, null, false, false); this.k = k; }
    }

    static final class Gate implements Cloneable {
        int a, b, heavy, by = -1;
        Gate copy() { Gate g = new Gate(); g.a = a; g.b = b; g.heavy = heavy; g.by = by; return g; }
    }

    static final class World {
        List<int[]> people = new ArrayList<>();
        List<Gate> gates = new ArrayList<>();
        List<Integer> stock = new ArrayList<>();
        int[] grass = {20, 20, 20, 20, 20, 20, 20};
        int hour, strays, z = 1;
        String[] texts = new String[2];
        String tape = "";
        List<Integer> waiting = new ArrayList<>();

        World copy() {
            World w = new World();
            for (int[] p : people) w.people.add(p.clone());
            for (Gate g : gates) w.gates.add(g.copy());
            w.stock.addAll(stock);
            w.grass = grass.clone();
            w.hour = hour;
            w.strays = strays;
            w.z = z;
            w.texts = texts.clone();
            w.tape = tape;
            w.waiting.addAll(waiting);
            return w;
        }
    }

    World w = new World();
    World image;
    int images;
    int[] told = new int[7];
    long[][] sheets = new long[4][];
    int[] widths = new int[4];
    List<Integer> trace = new ArrayList<>();

    static void need(boolean ok, int k) { if (!ok) throw new Refusal(k); }
    static boolean in(int v, int low, int high) { return low <= v && v <= high; }

    /** Any act by its name; what it throws is what it refuses. */
    int call(String name, long[] a) {
        try {
            return act(name, a);
        } catch (Refusal r) {
            told[r.k]++;
            return -1000000000 - r.k;
        }
    }

    private int act(String name, long[] l) {
        int[] a = new int[l.length];
        for (int i = 0; i < a.length; i++) a[i] = (int) l[i];
        switch (name) {
            case "person": need(in(a[0], 0, 69), 1); need(w.people.size() < 6, 4);
                w.people.add(new int[] {a[0] / 10, a[0] % 10}); return w.people.size() - 1;
            case "personIs": one(a[0]); need(in(a[1], 0, 4), 1); return personIs(w, a[0], a[1]);
            case "become": { one(a[0]); need(in(a[1], 0, 69), 1); int was = w.people.get(a[0])[0];
                w.people.set(a[0], new int[] {a[1] / 10, a[1] % 10}); return was; }
            case "as": one(a[0]); need(in(a[1], 0, 6), 1);
                need(line(w.people.get(a[0])[0]).contains(a[1]), 5); return w.people.get(a[0])[1];
            case "gate": { field(a[0]); field(a[1]); need(a[0] != a[1], 1); need(in(a[2], 0, 9), 1); need(w.gates.size() < 9, 4);
                Gate g = new Gate(); g.a = a[0]; g.b = a[1]; g.heavy = a[2]; w.gates.add(g); return w.gates.size() - 1; }
            case "gateIs": { gate(a[0]); need(in(a[1], 0, 3), 1); Gate g = w.gates.get(a[0]);
                return new int[] {g.a, g.b, g.heavy, g.by}[a[1]]; }
            case "hold": { gate(a[0]); need(in(a[1], -1, w.people.size() - 1), 1); int was = w.gates.get(a[0]).by;
                w.gates.get(a[0]).by = a[1]; return was; }
            case "pass": { one(a[0]); one(a[1]); need(a[0] != a[1], 1); int n = 0;
                for (Gate g : w.gates) if (g.by == a[0]) { g.by = a[1]; n++; } return n; }
            case "stock": field(a[0]); need(w.stock.size() < 6, 4); w.stock.add(a[0]); return w.stock.size() - 1;
            case "stockAt": need(in(a[0], 0, w.stock.size() - 1), 1); return w.stock.get(a[0]);
            case "grass": { field(a[0]); need(in(a[1], 0, 99), 1); int was = w.grass[a[0]]; w.grass[a[0]] = a[1]; return was; }
            case "feed": { need(in(a[1], 1, 8), 1); need(w.tape.length() + a[1] <= 60, 4);
                StringBuilder s = new StringBuilder(w.tape); long v = l[0];
                for (int i = 0; i < a[1]; i++) { s.append((char) (v & 255)); v >>= 8; }
                w.tape = s.toString(); return w.tape.length(); }
            case "text": { need(in(a[0], 0, 1), 1); String t = w.tape; w.tape = ""; int f = fault(t, NAMES[a[0]]);
                if (f >= 0) return -10 - f; w.texts[a[0]] = t; return 1; }
            case "untell": { need(in(a[0], 0, 1), 1); int was = w.texts[a[0]] == null ? 0 : 1; w.texts[a[0]] = null; return was; }
            case "law": need(in(a[0], 0, 1), 1); return law(w, a[0], a[1], a[2], a[3]);
            case "hours": need(in(a[0], 1, 60), 1); need(w.hour + a[0] < 10000, 3);
                for (int i = 0; i < a[0]; i++) hour(w); return open(w);
            case "loose": need(in(a[0], 1, 30), 1); need(w.hour + a[0] < 10000, 3);
                for (int i = 0; i < a[0]; i++) { byDraws(w); hour(w); } return open(w);
            case "hour": { need(in(a[0], 0, 9999), 1); int was = w.hour; w.hour = a[0]; return was; }
            case "seed": { int was = w.z; w.z = a[0]; return was; }
            case "then": { need(in(a[0], 0, 60) && in(a[1], 0, 1), 1); World t = w.copy();
                for (int i = 0; i < a[0]; i++) hour(t); return a[1] == 0 ? open(t) : t.strays; }
            case "first": { gate(a[0]); World t = w.copy();
                for (int i = 0; i <= 60; i++) { if ((open(t) >> a[0] & 1) == 1) return i; hour(t); }
                throw new Refusal(2); }
            case "fewest": return fewest();
            case "way": return way(a[0], a[1]);
            case "cut": return cut(a[0], a[1], a[2]);
            case "roams": field(a[0]); return roam(a[0], open(w));
            case "odds": return odds(a[0], a[1]);
            case "fits": return fits(a[0]);
            case "voice": return voice(a[0], a[1], a[2]);
            case "body": need(in(a[0], 0, trace.size() - 1), 2); return trace.get(a[0]);
            case "sheet": need(in(a[0], 0, 3), 1); need(Arrays.asList(0, 8, 16, 32).contains(a[1]), 1);
                if (a[1] == 0) { sheets[a[0]] = null; return 1; }
                need(a[2] >= 0, 3); need(a[2] <= 24, 1); sheets[a[0]] = new long[a[2]]; widths[a[0]] = a[1]; return 1;
            case "put": need(in(a[0], 0, 3), 1); need(sheets[a[0]] != null, 2); need(in(a[1], 0, sheets[a[0]].length - 1), 1);
                sheets[a[0]][a[1]] = (long) a[2] << 64 - widths[a[0]] >> 64 - widths[a[0]]; return 1;
            case "move": return move(a);
            case "holds": { long[] s = there(a[0]); int n = 0;
                while (n < s.length && n < w.gates.size() && s[n] >= -1 && s[n] < w.people.size()) { w.gates.get(n).by = (int) s[n]; n++; }
                return n; }
            case "judge": { long[] s = there(a[0]); int n = 0;
                while (n < s.length && n < 7 && s[n] == w.grass[n]) n++; return n; }
            case "image": image = w.copy(); return ++images;
            case "restore": need(image != null, 2); w = image.copy(); return w.hour;
            case "tell": need(w.waiting.size() < 24, 4); w.waiting.add(a[0]); return w.waiting.size();
            case "check": { List<Integer> q = w.waiting; w.waiting = new ArrayList<>();
                for (int i = 0; i < q.size(); i++) if (i >= w.people.size() || q.get(i) != personIs(w, i, 3)) return i + 1;
                return 0; }
            case "count": need(in(a[0], 0, 9), 1);
                return new int[] {w.people.size(), w.gates.size(), w.stock.size(), w.hour, w.strays, open(w), w.tape.length(),
                    w.waiting.size(), trace.size(), w.z}[a[0]];
            case "told": need(in(a[0], 1, 6), 1); return told[a[0]];
            default: throw new IllegalArgumentException(name);
        }
    }

    private void one(int p) { need(in(p, 0, w.people.size() - 1), 1); }
    private void gate(int g) { need(in(g, 0, w.gates.size() - 1), 1); }
    private void field(int f) { need(in(f, 0, 6), 1); }
    private long[] there(int s) { need(in(s, 0, 3), 1); need(sheets[s] != null, 2); return sheets[s]; }

    /** A kind and those above it. */
    static List<Integer> line(int kind) {
        switch (kind) {
            case 0: return List.of(0);
            case 4: return List.of(4, 1, 0);
            case 5: return List.of(5, 2, 0);
            default: return List.of(kind, 0);
        }
    }

    static int personIs(World w, int p, int what) {
        int kind = w.people.get(p)[0];
        int m = w.people.get(p)[1];
        int holds = 0;
        int load = 0;
        for (int g = 0; g < w.gates.size(); g++) if (w.gates.get(g).by == p) { holds++; load += weighs(w, p, g); }
        return new int[] {kind, m, holds, load, room(w, kind, m, holds)}[what];
    }

    static int room(World w, int kind, int m, int holds) {
        if (kind == 0) return 10 + m;
        if (kind == 1) return room(w, 0, m, holds) / 2;
        if (kind == 2) return room(w, 0, m, holds) * 3;
        if (kind == 3) return room(w, 0, m, holds) - w.hour % 6;
        if (kind == 4) return room(w, 1, m, holds) + holds;
        if (kind == 5) return room(w, 2, m, holds) + 5;
        return w.hour % 24 < 12 ? 0 : room(w, 0, m, holds);
    }

    static int costs(World w, int kind, int g) {
        int heavy = w.gates.get(g).heavy;
        if (kind == 0 || kind == 3) return heavy;
        if (kind == 1) return costs(w, 0, g) + 1;
        if (kind == 2) return costs(w, 0, g) * 2;
        if (kind == 4) return costs(w, 1, g) - heavy / 2;
        if (kind == 5) return w.gates.get(g).by == -1 ? 0 : costs(w, 2, g);
        return costs(w, 0, g) + g % 3;
    }

    static int weighs(World w, int p, int g) { return law(w, 0, costs(w, w.people.get(p)[0], g), w.hour % 24, g); }
    static int draws(World w, int f) { return law(w, 1, w.grass[f], f, w.hour % 24); }

    static int law(World w, int use, int a, int b, int c) {
        int v = a;
        if (w.texts[use] != null) {
            Map<Character, Integer> means = new HashMap<>();
            means.put(NAMES[use].charAt(0), a);
            means.put(NAMES[use].charAt(1), b);
            means.put(NAMES[use].charAt(2), c);
            v = value(w.texts[use], means);
        }
        int most = use == 0 ? 19 : 99;
        return v < 0 ? 0 : v > most ? most : v;
    }

    static int open(World w) {
        int set = 0;
        for (int g = w.gates.size() - 1; g >= 0; g--) set = set * 2 + (w.gates.get(g).by < 0 ? 1 : 0);
        return set;
    }

    static void hour(World w) {
        for (int p = 0; p < w.people.size(); p++) {
            if (personIs(w, p, 3) <= personIs(w, p, 4)) continue;
            Gate worst = null;
            int most = Integer.MIN_VALUE;
            for (int g = w.gates.size() - 1; g >= 0; g--) {
                if (w.gates.get(g).by == p && weighs(w, p, g) >= most) { most = weighs(w, p, g); worst = w.gates.get(g); }
            }
            worst.by = -1;
        }
        for (int b = 0; b < w.stock.size(); b++) {
            int f = w.stock.get(b);
            List<Integer> choice = new ArrayList<>(List.of(f));
            for (Gate g : w.gates) {
                if (g.by == -1 && g.a == f) choice.add(g.b);
                if (g.by == -1 && g.b == f) choice.add(g.a);
            }
            int best = choice.stream().mapToInt(c -> draws(w, c)).max().getAsInt();
            int to = choice.stream().filter(c -> draws(w, c) == best).findFirst().get();
            if (to != f && w.strays < 9999) w.strays++;
            w.stock.set(b, to);
            if (w.grass[to] > 0) w.grass[to]--;
        }
        w.hour++;
    }

    static int drawn(World w) { w.z = (int) (w.z * 1103515245L + 12345L); return w.z >>> 8; }

    static void byDraws(World w) {
        if (w.people.isEmpty() || w.gates.isEmpty()) return;
        int first = drawn(w);
        int second = drawn(w);
        int third = drawn(w);
        w.gates.get(first % w.gates.size()).by = third % 4 == 0 ? -1 : second % w.people.size();
    }

    // ---- texts, by a stack of signs

    static final String[] NAMES = {"whg", "gfd"};

    /** -1, or the place of the first byte that can't stand there. */
    static int fault(String t, String names) {
        // a frame is ! or ( or the bottom; with each ( and the bottom goes whether a comparison was there
        List<Character> open = new ArrayList<>();
        List<Boolean> compared = new ArrayList<>(List.of(false));
        boolean wants = true;
        int digits = 0;
        for (int i = 0; i < t.length(); i++) {
            char c = t.charAt(i);
            if (wants) {
                if (c == '!' || c == '(') {
                    if (open.size() == 5) return i;
                    open.add(c);
                    if (c == '(') compared.add(false);
                } else if (c >= '0' && c <= '9') {
                    wants = false;
                    digits = 1;
                } else if (names.indexOf(c) >= 0) {
                    wants = false;
                    digits = 0;
                    shut(open);
                } else {
                    return i;
                }
                continue;
            }
            if (c >= '0' && c <= '9') {
                if (digits == 0 || digits == 4) return i;
                digits++;
                continue;
            }
            if (digits > 0) shut(open);
            digits = 0;
            int last = compared.size() - 1;
            if ("+-*/%".indexOf(c) >= 0) {
                wants = true;
            } else if ("<=>".indexOf(c) >= 0 && !compared.get(last)) {
                compared.set(last, true);
                wants = true;
            } else if (c == '|' || c == '&') {
                compared.set(last, false);
                wants = true;
            } else if (c == ')' && last > 0) {
                compared.remove(last);
                open.remove(open.size() - 1);
                shut(open);
            } else {
                return i;
            }
        }
        return wants || compared.size() > 1 ? t.length() : -1;
    }

    /** Where an operand ends, the ! ahead of it end, too. */
    private static void shut(List<Character> open) {
        while (!open.isEmpty() && open.get(open.size() - 1) == '!') open.remove(open.size() - 1);
    }

    /** The value, by splitting at the last sign of the loosest binding outside of brackets. */
    static int value(String t, Map<Character, Integer> means) {
        for (String signs : new String[] {"|", "&", "<=>", "+-", "*/%"}) {
            int depth = 0;
            for (int i = t.length() - 1; i > 0; i--) {
                char c = t.charAt(i);
                if (c == ')') depth++;
                if (c == '(') depth--;
                if (depth == 0 && signs.indexOf(c) >= 0) {
                    return joined(c, value(t.substring(0, i), means), value(t.substring(i + 1), means));
                }
            }
        }
        char c = t.charAt(0);
        if (c == '!') return value(t.substring(1), means) == 0 ? 1 : 0;
        if (c == '(') return value(t.substring(1, t.length() - 1), means);
        return means.containsKey(c) ? means.get(c) : Integer.parseInt(t);
    }

    private static int joined(char sign, int a, int b) {
        switch (sign) {
            case '|': return a != 0 || b != 0 ? 1 : 0;
            case '&': return a != 0 && b != 0 ? 1 : 0;
            case '<': return a < b ? 1 : 0;
            case '=': return a == b ? 1 : 0;
            case '>': return a > b ? 1 : 0;
            case '+': return (int) ((long) a + b);
            case '-': return (int) ((long) a - b);
            case '*': return (int) ((long) a * b);
            case '/': return b == 0 ? 0 : (int) ((long) a / b);
            default: return b == 0 ? 0 : (int) ((long) a % b);
        }
    }

    // ---- what is, what would be

    private int fewest() {
        int best = 99;
        int n = w.people.size();
        for (int team = 0; team < 1 << n; team++) {
            if (Integer.bitCount(team) >= best) continue;
            int[] left = new int[n];
            for (int p = 0; p < n; p++) left[p] = personIs(w, p, 4);
            if (parts(0, team, left)) best = Integer.bitCount(team);
        }
        need(best < 99, 2);
        return best;
    }

    private boolean parts(int g, int team, int[] left) {
        if (g == w.gates.size()) return true;
        for (int p = 0; p < left.length; p++) {
            int weight = weighs(w, p, g);
            if ((team >> p & 1) == 0 || weight > left[p]) continue;
            left[p] -= weight;
            boolean done = parts(g + 1, team, left);
            left[p] += weight;
            if (done) return true;
        }
        return false;
    }

    private int roam(int field, int gates) {
        boolean[] seen = new boolean[7];
        List<Integer> todo = new ArrayList<>(List.of(field));
        int set = 0;
        while (!todo.isEmpty()) {
            int f = todo.remove(todo.size() - 1);
            if (seen[f]) continue;
            seen[f] = true;
            set |= 1 << f;
            for (int g = 0; g < w.gates.size(); g++) {
                if ((gates >> g & 1) == 0) continue;
                if (w.gates.get(g).a == f) todo.add(w.gates.get(g).b);
                if (w.gates.get(g).b == f) todo.add(w.gates.get(g).a);
            }
        }
        return set;
    }

    private int way(int from, int to) {
        field(from);
        field(to);
        int[][] far = new int[7][7];
        for (int i = 0; i < 7; i++) { Arrays.fill(far[i], 1000); far[i][i] = 0; }
        for (Gate g : w.gates) { far[g.a][g.b] = 1; far[g.b][g.a] = 1; }
        for (int k = 0; k < 7; k++) for (int i = 0; i < 7; i++) for (int j = 0; j < 7; j++) {
            far[i][j] = Math.min(far[i][j], far[i][k] + far[k][j]);
        }
        need(far[from][to] < 1000, 2);
        return far[from][to];
    }

    private int cut(int from, int to, int what) {
        field(from);
        field(to);
        need(from != to, 1);
        need(in(what, 0, 1), 1);
        int n = w.gates.size();
        for (int size = 0; size <= n; size++) for (int set = 0; set < 1 << n; set++) {
            if (Integer.bitCount(set) == size && (roam(from, ~set) >> to & 1) == 0) return what == 0 ? size : set;
        }
        throw new IllegalStateException();
    }

    private int odds(int field, int part) {
        field(field);
        need(in(part, 0, 1), 1);
        need(!w.gates.isEmpty(), 3);
        int some = 0;
        for (int g = 0; g < w.gates.size(); g++) {
            if (Integer.bitCount(roam(field, open(w) | 1 << g)) > Integer.bitCount(roam(field, open(w)))) some++;
        }
        int a = some;
        int b = w.gates.size();
        while (b != 0) { int rest = a % b; a = b; b = rest; }
        return (part == 0 ? some : w.gates.size()) / a;
    }

    private int fits(int sheet) {
        long[] s = there(sheet);
        World t = w.copy();
        for (int n = 0; n <= 60; n++) {
            boolean so = s.length <= t.gates.size();
            for (int g = 0; so && g < s.length; g++) so = s[g] == t.gates.get(g).by;
            if (so) return n;
            hour(t);
        }
        throw new Refusal(2);
    }

    private int move(int[] a) {
        need(in(a[0], 0, 3), 1);
        need(in(a[2], 0, 3), 1);
        need(sheets[a[0]] != null && sheets[a[2]] != null, 2);
        need(widths[a[0]] == widths[a[2]], 5);
        need(a[4] >= 0 && a[1] >= 0 && a[3] >= 0, 1);
        need((long) a[1] + a[4] <= sheets[a[0]].length && (long) a[3] + a[4] <= sheets[a[2]].length, 1);
        long[] were = sheets[a[0]].clone();
        for (int n = 0; n < a[4]; n++) sheets[a[2]][a[3] + n] = were[a[1] + n];
        return a[4];
    }

    // ---- voices, as Java's own classes would have them

    static class Man {
        int k;
        int m;
        List<Integer> heard = new ArrayList<>();
        int nods(int x) { heard.add(10); return x + k; }
        int minds(int x) { heard.add(11); return nods(x) * 2; }
        int whistles(int x) { heard.add(12); return minds(x) - m; }
        int parts(int x) { heard.add(13); need(m != k, 6); return x / (m - k); }
    }
    static class Lover extends Man {
        @Override int nods(int x) { heard.add(20); return super.nods(x) - 4; }
        @Override int parts(int x) { heard.add(21); return super.parts(x) + minds(1); }
    }
    static class Thinker extends Man {
        @Override int minds(int x) { heard.add(30); return 0 - super.minds(x); }
    }
    static class Boy extends Man {
        @Override int whistles(int x) { heard.add(40); return super.whistles(x / 2); }
    }
    static class Groom extends Lover {
        @Override int nods(int x) { heard.add(50); return super.nods(x) * 3; }
        @Override int whistles(int x) { heard.add(51); return super.whistles(x) ^ k; }
    }
    static class Amos extends Thinker {
        @Override int minds(int x) { heard.add(60); return super.minds(x + 1); }
    }
    static class Guest extends Man {
        @Override int nods(int x) { heard.add(70); return 9; }
        @Override int minds(int x) { heard.add(71); return super.minds(x) + m; }
    }

    private int voice(int p, int voice, int x) {
        one(p);
        need(in(voice, 0, 3), 1);
        Man man = List.of(new Man(), new Lover(), new Thinker(), new Boy(), new Groom(), new Amos(), new Guest()).get(w.people.get(p)[0]);
        man.k = p;
        man.m = w.people.get(p)[1];
        try {
            return voice == 0 ? man.nods(x) : voice == 1 ? man.minds(x) : voice == 2 ? man.whistles(x) : man.parts(x);
        } finally {
            trace = new ArrayList<>(man.heard.subList(0, Math.min(30, man.heard.size())));
        }
    }
}
