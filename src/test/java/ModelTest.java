import java.lang.reflect.Method;
import java.util.ArrayList;
import java.util.List;
import java.util.Random;

/** Runs of calls made up from fixed seeds, each answered by GateMinds and by Model alike. */
public final class ModelTest {
    private static final String[] ACTS = {
        "person", "personIs", "become", "as", "gate", "gateIs", "hold", "pass", "stock", "stockAt", "grass", "feed", "text",
        "untell", "law", "hours", "loose", "hour", "seed", "then", "first", "fewest", "way", "cut", "roams", "odds", "fits",
        "voice", "body", "sheet", "put", "move", "holds", "judge", "image", "restore", "tell", "check", "count", "told"
    };
    private static final int RUNS = 1500;
    private static final int CALLS = 400;

    private final Random random;
    private final List<long[]> queuedFeeds = new ArrayList<>();
    private int queuedUse = -1;

    private ModelTest(long seed) { random = new Random(seed); }

    public static void main(String[] args) throws Exception {
        int wrong = 0;
        for (int run = 0; run < RUNS && wrong < 5; run++) wrong += new ModelTest(run).runOnce(run);
        System.out.println(wrong == 0 ? RUNS + " runs agree" : wrong + " runs differ");
        if (wrong != 0) System.exit(1);
    }

    private int runOnce(int run) throws Exception {
        GateMinds minds = new GateMinds();
        Model model = new Model();
        StringBuilder log = new StringBuilder();
        for (int n = 0; n < CALLS; n++) {
            String act = next(n);
            Method method = method(act);
            long[] args = arguments(act, model);
            Object[] boxed = new Object[args.length];
            for (int i = 0; i < args.length; i++) {
                if (method.getParameterTypes()[i] == long.class) boxed[i] = args[i]; else boxed[i] = (int) args[i];
            }
            int got = (Integer) method.invoke(minds, boxed);
            int due = model.call(act, args);
            log.append(act).append(java.util.Arrays.toString(args)).append(" -> ").append(got).append('\n');
            if (got != due) {
                String[] lines = log.toString().split("\n");
                for (int i = Math.max(0, lines.length - 25); i < lines.length; i++) System.out.println(lines[i]);
                System.out.println("run " + run + ", call " + n + ": due is " + due);
                return 1;
            }
        }
        return 0;
    }

    private static Method method(String name) {
        for (Method m : GateMinds.class.getMethods()) if (m.getName().equals(name)) return m;
        throw new IllegalStateException(name);
    }

    /** Mostly people, gates and stock first, so that the later calls have something to speak of. */
    private String next(int n) {
        if (!queuedFeeds.isEmpty()) return "feed";
        if (queuedUse >= 0) return "text";
        if (n < 20 && random.nextInt(3) > 0) return new String[] {"person", "gate", "gate", "stock", "hold", "hold"}[random.nextInt(6)];
        if (random.nextInt(12) == 0) {
            queueText();
            return "feed";
        }
        return ACTS[random.nextInt(ACTS.length)];
    }

    private void queueText() {
        int use = random.nextInt(2);
        StringBuilder t = new StringBuilder();
        write(t, Model.NAMES[use], 0);
        if (random.nextInt(4) == 0) t.insert(random.nextInt(t.length() + 1), "!(|&<=>+-*/%)w1gfdh \u00e90".charAt(random.nextInt(21)));
        if (random.nextInt(8) == 0) t.setLength(random.nextInt(t.length() + 1));
        if (t.length() > 60) t.setLength(60);
        for (int at = 0; at < t.length(); at += 8) {
            long word = random.nextLong();
            int n = Math.min(8, t.length() - at);
            for (int i = 0; i < n; i++) word = word & ~(255L << 8 * i) | (t.charAt(at + i) & 255L) << 8 * i;
            queuedFeeds.add(new long[] {word, n});
        }
        if (queuedFeeds.isEmpty()) queuedFeeds.add(new long[] {'w', 1});
        queuedUse = use;
    }

    private void write(StringBuilder t, String names, int depth) {
        int parts = 1 + random.nextInt(3);
        for (int i = 0; i < parts; i++) {
            if (i > 0) t.append("|&<=>++--**//%%".charAt(random.nextInt(15)));
            int what = random.nextInt(8);
            if (what == 0 && depth < 7) {
                t.append('(');
                write(t, names, depth + 1);
                t.append(')');
            } else if (what == 1) {
                for (int k = 1 + random.nextInt(2); k > 0; k--) t.append('!');
                t.append(names.charAt(random.nextInt(3)));
            } else if (what < 5) {
                t.append(random.nextInt(random.nextInt(10) == 0 ? 20000 : 30));
            } else {
                t.append(names.charAt(random.nextInt(3)));
            }
        }
    }

    private int upTo(int most) {
        int odd = random.nextInt(40);
        if (odd == 0) return -1;
        if (odd == 1) return most + 1;
        if (odd == 2) return new int[] {Integer.MIN_VALUE, Integer.MAX_VALUE, -2, -1000, most + 2, 100000}[random.nextInt(6)];
        return random.nextInt(most + 1);
    }

    private int any() {
        if (random.nextInt(3) == 0) return random.nextInt();
        if (random.nextInt(8) == 0) return new int[] {Integer.MIN_VALUE, Integer.MAX_VALUE, -1, 255, 65535}[random.nextInt(5)];
        return random.nextInt(60) - 20;
    }

    private long[] arguments(String act, Model model) {
        int people = Math.max(0, model.w.people.size() - 1);
        int gates = Math.max(0, model.w.gates.size() - 1);
        switch (act) {
            case "person": return new long[] {upTo(69)};
            case "personIs": return new long[] {upTo(people), upTo(4)};
            case "become": return new long[] {upTo(people), upTo(69)};
            case "as": return new long[] {upTo(people), upTo(6)};
            case "gate": return new long[] {upTo(6), upTo(6), upTo(9)};
            case "gateIs": return new long[] {upTo(gates), upTo(3)};
            case "hold": return new long[] {upTo(gates), random.nextInt(6) == 0 ? -1 : upTo(people)};
            case "pass": return new long[] {upTo(people), upTo(people)};
            case "stock": case "roams": return new long[] {upTo(6)};
            case "stockAt": return new long[] {upTo(5)};
            case "grass": return new long[] {upTo(6), upTo(99)};
            case "feed":
                if (!queuedFeeds.isEmpty()) return queuedFeeds.remove(0);
                return new long[] {random.nextLong(), 1 + upTo(7)};
            case "text": {
                int use = queuedUse >= 0 ? queuedUse : upTo(1);
                queuedUse = -1;
                return new long[] {use};
            }
            case "untell": return new long[] {upTo(random.nextInt(8) == 0 ? 1 : 4)};
            case "law": return new long[] {upTo(1), any(), any(), any()};
            case "hours": return new long[] {random.nextBoolean() ? upTo(3) : upTo(60)};
            case "loose": return new long[] {random.nextBoolean() ? upTo(3) : upTo(30)};
            case "hour": return new long[] {random.nextInt(3) == 0 ? 9990 + random.nextInt(12) : upTo(9999)};
            case "seed": case "tell":
                if (act.equals("tell") && random.nextInt(3) > 0 && model.w.waiting.size() < model.w.people.size()) {
                    return new long[] {Model.personIs(model.w, model.w.waiting.size(), 3)};
                }
                return new long[] {any()};
            case "then": return new long[] {upTo(60), upTo(1)};
            case "first": return new long[] {upTo(gates)};
            case "way": return new long[] {upTo(6), upTo(6)};
            case "cut": return new long[] {upTo(6), upTo(6), upTo(1)};
            case "odds": return new long[] {upTo(6), upTo(1)};
            case "fits": case "holds": case "judge": return new long[] {sheet()};
            case "voice": return new long[] {upTo(people), upTo(3), any()};
            case "body": return new long[] {upTo(8)};
            case "sheet": return new long[] {sheet(), new int[] {0, 8, 8, 16, 16, 32, 7, -8}[random.nextInt(8)], upTo(random.nextBoolean() ? 8 : 24)};
            case "put": return numberToPut(model);
            case "move": return new long[] {sheet(), upTo(4), sheet(), upTo(4), upTo(4)};
            case "count": return new long[] {upTo(9)};
            case "told": return new long[] {upTo(6)};
            default: return new long[0];
        }
    }

    private int sheet() { return random.nextInt(30) == 0 ? upTo(3) : random.nextInt(3); }

    /** Often the number that holds(), fits() or judge() asks for, behind bits that are cut off. */
    private long[] numberToPut(Model model) {
        int sheet = sheet();
        int i = upTo(8);
        int v = any();
        if (sheet >= 0 && sheet < 4 && i >= 0 && random.nextInt(4) > 0) {
            if (sheet == 0 && i < model.w.gates.size()) v = model.w.gates.get(i).by;
            if (sheet == 1 && i < 7) v = model.w.grass[i];
            if (sheet == 2) v = random.nextInt(Math.max(1, model.w.people.size()) + 1) - 1;
        }
        if (random.nextInt(5) == 0) v += 65536 * random.nextInt(5);
        return new long[] {sheet, i, v};
    }
}
