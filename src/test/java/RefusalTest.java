import java.util.ArrayList;
import java.util.List;

/**
 * "one that answers an ERROR changes nothing but what told() tells, or where told": of two objects made alike one is
 * asked for what it refuses, and then both are asked for all that they can tell.
 */
public final class RefusalTest extends Checks {
    private interface Call {
        int on(GateMinds x);
    }

    private static final int[] ANY = {MIN, MAX, -1};
    private static boolean crowded;
    private static boolean traceChanges;

    public static void main(String[] args) {
        for (int n = 0; n < 2; n++) {
            crowded = n == 1;
            peopleGatesStock();
            textsAndHours();
            whatWouldBe();
            sheets();
            theRest();
        }
        crowded = true;
        ofTheCrowdAlone();
        parted();
        crowded = false;
        ofAnEmptyOneAlone();
        end();
    }

    // ---- two objects

    /** As full as one may be, at the last HOUR, with TEXTS, SHEETS 0 .. 2, an IMAGE of another time, numbers that wait. */
    private static GateMinds crowd() {
        GateMinds x = people(0, 19, 33, 45, 66, 12);
        for (int g = 0; g < 9; g++) x.gate(g % 5, (g + 1) % 5, g);
        for (int b = 0; b < 6; b++) x.stock(b);
        for (int f = 0; f < 7; f++) x.grass(f, 30 + f);
        x.hold(0, 0);
        x.hold(1, 2);
        x.hold(2, 4);
        text(x, 1, "g+f");
        x.hours(7);
        x.tell(3);
        feed(x, "h");
        x.image();
        x.text(0);
        text(x, 0, "10");
        x.seed(-77);
        x.hour(9999);
        x.sheet(0, 8, 3);
        x.sheet(1, 16, 2);
        x.sheet(2, 32, 0);
        for (int i = 0; i < 3; i++) x.put(0, i, i + 1);
        x.put(1, 0, 1);
        x.put(1, 1, 258);
        x.voice(3, 2, 8);
        for (int n = 1; n < 24; n++) x.tell(n == 1 || n == 3 ? 10 : 0);
        feed(x, "1+1+1+1+1+1+1+1+1+1+1+1+1+1+1+1+1+1+1+1+1+1+1+1+1+1+1+1+1+11");
        return x;
    }

    private static GateMinds made() {
        return crowded ? crowd() : new GateMinds();
    }

    /** All that an object can tell; it is another one afterwards. */
    private static List<Integer> all(GateMinds x) {
        List<Integer> all = new ArrayList<>();
        for (int k = 1; k <= 6; k++) all.add(x.told(k));
        for (int i = 0; i < 7; i++) all.add(x.body(i));
        all.add(x.count(8));
        state(x, all);
        for (int s = 0; s < 4; s++) sheetOf(x, s, all);
        all.add(x.check());
        all.add(x.text(0));
        all.add(x.law(0, 3, 4, 5));
        all.add(x.restore());
        state(x, all);
        all.add(x.check());
        all.add(x.text(1));
        all.add(x.law(1, 3, 4, 5));
        all.add(x.image());
        return all;
    }

    /** What an IMAGE keeps; GRASS is f + 1 of each FIELD f then. */
    private static void state(GateMinds x, List<Integer> all) {
        for (int what = 0; what < 10; what++) if (what != 8) all.add(x.count(what));
        for (int p = 0; p < 6; p++) for (int what = 0; what < 5; what++) all.add(x.personIs(p, what));
        for (int g = 0; g < 9; g++) for (int what = 0; what < 4; what++) all.add(x.gateIs(g, what));
        for (int b = 0; b < 6; b++) all.add(x.stockAt(b));
        for (int use = 0; use < 2; use++) all.add(x.law(use, 3, 4, 5));
        for (int f = 0; f < 7; f++) all.add(x.grass(f, f + 1));
    }

    /** How many numbers of a SHEET are 1, 2, .., how many there are, and of how many bits. */
    private static void sheetOf(GateMinds x, int s, List<Integer> all) {
        all.add(x.judge(s));
        all.add(x.put(s, 1, 2));
        all.add(x.judge(s));
        for (int n = 0; n < 5; n++) all.add(x.move(s, 0, s, 0, n));
        all.add(x.put(s, 0, 1 + 256));
        all.add(x.judge(s));
        all.add(x.put(s, 0, 1 + 65536));
        all.add(x.judge(s));
    }

    private static final int TRACE_FROM = 6;
    private static final int TRACE_TO = 14;

    /** A call answers an ERROR, and all stays as it is without it but what told() tells of that ERROR. */
    private static void refused(int error, Call call) {
        GateMinds asked = made();
        due(error, call.on(asked));
        List<Integer> got = all(asked);
        List<Integer> want = all(made());
        int k = -1000000000 - error;
        want.set(k - 1, want.get(k - 1) + 1);
        for (int i = 0; i < want.size(); i++) {
            if (traceChanges && i >= TRACE_FROM && i < TRACE_TO) continue;
            due(want.get(i), got.get(i));
        }
    }

    private static int none() {
        return crowded ? 6 : 0;
    }

    private static void named(String act) {
        about("Terms: one that answers an ERROR changes nothing but what told() tells; " + act + (crowded ? " of a crowd" : ""));
    }

    // ---- what both refuse

    private static void peopleGatesStock() {
        named("people, gates, stock");
        int p = none();
        int g = crowded ? 9 : 0;
        for (int v : ANY) {
            refused(BEYOND, x -> x.person(v));
            refused(BEYOND, x -> x.personIs(v, 0));
            refused(BEYOND, x -> x.personIs(0, v));
            refused(BEYOND, x -> x.become(v, 0));
            refused(BEYOND, x -> x.become(0, v));
            refused(BEYOND, x -> x.as(v, 0));
            refused(BEYOND, x -> x.as(0, v));
            refused(BEYOND, x -> x.gate(v, 0, 0));
            refused(BEYOND, x -> x.gate(0, v, 0));
            refused(BEYOND, x -> x.gate(0, 1, v));
            refused(BEYOND, x -> x.gateIs(v, 0));
            refused(BEYOND, x -> x.gateIs(0, v));
            refused(BEYOND, x -> x.hold(v, 0));
            refused(BEYOND, x -> x.hold(0, v == -1 ? -2 : v));
            refused(BEYOND, x -> x.pass(v, 0));
            refused(BEYOND, x -> x.pass(0, v));
            refused(BEYOND, x -> x.stock(v));
            refused(BEYOND, x -> x.stockAt(v));
            refused(BEYOND, x -> x.grass(v, 0));
            refused(BEYOND, x -> x.grass(0, v));
        }
        refused(BEYOND, x -> x.person(70));
        refused(BEYOND, x -> x.personIs(p, 0));
        refused(BEYOND, x -> x.personIs(0, 5));
        refused(BEYOND, x -> x.become(p, 11));
        refused(BEYOND, x -> x.become(0, 70));
        refused(BEYOND, x -> x.as(p, 0));
        refused(BEYOND, x -> x.as(0, 7));
        refused(BEYOND, x -> x.gate(7, 0, 0));
        refused(BEYOND, x -> x.gate(0, 7, 0));
        refused(BEYOND, x -> x.gate(4, 4, 0));
        refused(BEYOND, x -> x.gate(0, 1, 10));
        refused(BEYOND, x -> x.gateIs(g, 0));
        refused(BEYOND, x -> x.gateIs(0, 4));
        refused(BEYOND, x -> x.hold(g, 0));
        refused(BEYOND, x -> x.hold(0, p));
        refused(BEYOND, x -> x.pass(0, 0));
        refused(BEYOND, x -> x.pass(0, p));
        refused(BEYOND, x -> x.pass(p, 0));
        refused(BEYOND, x -> x.stock(7));
        refused(BEYOND, x -> x.stockAt(p));
        refused(BEYOND, x -> x.grass(7, 5));
        refused(BEYOND, x -> x.grass(0, 100));
    }

    private static void textsAndHours() {
        named("texts and hours");
        for (int v : ANY) {
            refused(BEYOND, x -> x.feed('1', v));
            refused(BEYOND, x -> x.text(v));
            refused(BEYOND, x -> x.untell(v));
            refused(BEYOND, x -> x.law(v, 0, 0, 0));
            refused(BEYOND, x -> x.hours(v));
            refused(BEYOND, x -> x.loose(v));
            refused(BEYOND, x -> x.hour(v));
        }
        refused(BEYOND, x -> x.feed('1', 0));
        refused(BEYOND, x -> x.feed('1', 9));
        refused(BEYOND, x -> x.text(2));
        refused(BEYOND, x -> x.untell(2));
        refused(BEYOND, x -> x.law(2, 0, 0, 0));
        refused(BEYOND, x -> x.hours(0));
        refused(BEYOND, x -> x.hours(61));
        refused(BEYOND, x -> x.loose(0));
        refused(BEYOND, x -> x.loose(31));
        refused(BEYOND, x -> x.hour(10000));
    }

    private static void whatWouldBe() {
        named("what is, what would be");
        int g = crowded ? 9 : 0;
        for (int v : ANY) {
            refused(BEYOND, x -> x.then(v, 0));
            refused(BEYOND, x -> x.then(0, v));
            refused(BEYOND, x -> x.first(v));
            refused(BEYOND, x -> x.way(v, 0));
            refused(BEYOND, x -> x.way(0, v));
            refused(BEYOND, x -> x.cut(v, 0, 0));
            refused(BEYOND, x -> x.cut(0, v, 0));
            refused(BEYOND, x -> x.cut(0, 1, v));
            refused(BEYOND, x -> x.roams(v));
            refused(BEYOND, x -> x.odds(v, 0));
            refused(BEYOND, x -> x.odds(0, v));
            refused(BEYOND, x -> x.fits(v));
        }
        refused(BEYOND, x -> x.then(61, 0));
        refused(BEYOND, x -> x.then(60, 2));
        refused(BEYOND, x -> x.first(g));
        refused(BEYOND, x -> x.way(7, 0));
        refused(BEYOND, x -> x.way(0, 7));
        refused(NONE, x -> x.way(0, 6));
        refused(BEYOND, x -> x.cut(3, 3, 0));
        refused(BEYOND, x -> x.cut(0, 7, 0));
        refused(BEYOND, x -> x.cut(0, 1, 2));
        refused(BEYOND, x -> x.roams(7));
        refused(BEYOND, x -> x.odds(7, 0));
        refused(BEYOND, x -> x.odds(0, 2));
        refused(BEYOND, x -> x.fits(4));
        refused(NONE, x -> x.fits(3));
    }

    private static void sheets() {
        named("sheets");
        for (int v : ANY) {
            refused(BEYOND, x -> x.sheet(v, 8, 1));
            refused(BEYOND, x -> x.sheet(0, v, 1));
            refused(BEYOND, x -> x.put(v, 0, 9));
            refused(BEYOND, x -> x.move(v, 0, 0, 0, 0));
            refused(BEYOND, x -> x.move(0, 0, v, 0, 0));
            refused(BEYOND, x -> x.holds(v));
            refused(BEYOND, x -> x.judge(v));
        }
        for (int s = 0; s < 4; s++) {
            int of = s;
            refused(STATE, x -> x.sheet(of, 8, -1));
            refused(STATE, x -> x.sheet(of, 32, MIN));
            refused(BEYOND, x -> x.sheet(of, 16, 25));
            refused(BEYOND, x -> x.sheet(of, 8, MAX));
            refused(BEYOND, x -> x.sheet(of, 24, 2));
        }
        refused(BEYOND, x -> x.sheet(4, 0, 0));
        refused(BEYOND, x -> x.put(4, 0, 9));
        refused(NONE, x -> x.put(3, 0, 9));
        refused(BEYOND, x -> x.move(4, 0, 0, 0, 1));
        refused(BEYOND, x -> x.move(0, 0, 4, 0, 1));
        refused(NONE, x -> x.move(3, 0, 0, 0, 1));
        refused(NONE, x -> x.move(0, 0, 3, 0, 1));
        refused(BEYOND, x -> x.holds(4));
        refused(NONE, x -> x.holds(3));
        refused(BEYOND, x -> x.judge(4));
        refused(NONE, x -> x.judge(3));
    }

    private static void theRest() {
        named("voices and what is told");
        int p = none();
        for (int v : ANY) {
            refused(BEYOND, x -> x.voice(v, 0, 1));
            refused(BEYOND, x -> x.voice(0, v, 1));
            refused(NONE, x -> x.body(v));
            refused(BEYOND, x -> x.count(v));
            refused(BEYOND, x -> x.told(v));
        }
        refused(BEYOND, x -> x.voice(p, 0, 1));
        refused(BEYOND, x -> x.voice(0, 4, 1));
        refused(NONE, x -> x.body(6));
        refused(NONE, x -> x.body(30));
        refused(BEYOND, x -> x.count(10));
        refused(BEYOND, x -> x.told(0));
        refused(BEYOND, x -> x.told(7));
    }

    // ---- what one of them refuses

    private static void ofTheCrowdAlone() {
        named("FULL");
        refused(FULL, x -> x.person(0));
        refused(FULL, x -> x.gate(0, 1, 0));
        refused(FULL, x -> x.stock(0));
        refused(FULL, x -> x.feed('1', 1));
        refused(FULL, x -> x.feed(-1L, 8));
        refused(FULL, x -> x.tell(0));
        named("STATE");
        refused(STATE, x -> x.hours(1));
        refused(STATE, x -> x.hours(60));
        refused(STATE, x -> x.loose(1));
        refused(STATE, x -> x.loose(30));
        named("KIND");
        refused(KIND, x -> x.as(0, 1));
        refused(KIND, x -> x.as(3, 5));
        refused(KIND, x -> x.move(0, 0, 1, 0, 1));
        refused(KIND, x -> x.move(1, 0, 0, 0, 1));
        named("NONE");
        refused(NONE, x -> x.first(0));
        refused(NONE, x -> x.fewest());
        refused(NONE, x -> x.fits(0));
        refused(NONE, x -> x.fits(1));
        named("numbers that no SHEET has");
        for (int v : new int[] {-1, 3, MIN, MAX}) {
            refused(BEYOND, x -> x.put(0, v, 9));
            refused(BEYOND, x -> x.move(0, v, 0, 0, 1));
            refused(BEYOND, x -> x.move(0, 0, 0, v, 1));
        }
        refused(BEYOND, x -> x.put(2, 0, 9));
        refused(BEYOND, x -> x.move(0, 0, 0, 1, 3));
        refused(BEYOND, x -> x.move(0, 1, 0, 0, 3));
        refused(BEYOND, x -> x.move(0, 0, 0, 0, 4));
        refused(BEYOND, x -> x.move(0, 1, 0, 0, -1));
        refused(BEYOND, x -> x.move(0, 1, 0, 0, MIN));
        refused(BEYOND, x -> x.move(0, 1, 0, 0, MAX));
    }

    private static void parted() {
        named("PARTED, but for THE TRACE");
        traceChanges = true;
        refused(PARTED, x -> x.voice(0, 3, 5));
        refused(PARTED, x -> x.voice(0, 3, MIN));
        traceChanges = false;
        GateMinds x = crowd();
        due(6, x.count(8));
        due(PARTED, x.voice(0, 3, 5));
        due(1, x.count(8));
        due(13, x.body(0));
    }

    private static void ofAnEmptyOneAlone() {
        named("NONE and STATE, where there is nothing");
        refused(NONE, x -> x.restore());
        refused(NONE, x -> x.body(0));
        refused(NONE, x -> x.put(0, 0, 1));
        refused(NONE, x -> x.fits(0));
        refused(NONE, x -> x.holds(0));
        refused(NONE, x -> x.judge(0));
        refused(NONE, x -> x.move(0, 0, 1, 0, 1));
        refused(STATE, x -> x.odds(0, 0));
        refused(STATE, x -> x.odds(6, 1));
    }
}
