/**
 * Each sentence of promises 1 to 41 that names a boundary has a test of its own here, under its own words; answers
 * worked out by hand. That a refused call changes nothing is RefusalTest's.
 */
public final class PromiseEdgesTest extends Checks {
    public static void main(String[] args) {
        newObject();
        person();
        personIs();
        become();
        as();
        gate();
        gateIs();
        hold();
        pass();
        stock();
        grass();
        feed();
        text();
        faults();
        untell();
        law();
        hours();
        loose();
        hourAndSeed();
        then();
        first();
        fewest();
        way();
        cut();
        roams();
        odds();
        fits();
        voice();
        body();
        sheet();
        put();
        lowestBits();
        move();
        movePlaces();
        holds();
        judge();
        image();
        restore();
        tell();
        check();
        count();
        told();
        end();
    }

    private static void newObject() {
        about("Promise 1: All as at first; no PEOPLE, no GATES, no STOCK, no TEXTS.");
        GateMinds x = new GateMinds();
        for (int what = 0; what < 9; what++) due(0, x.count(what));
        due(1, x.count(9));
        due(BEYOND, x.personIs(0, 0), x.gateIs(0, 0), x.stockAt(0), x.first(0), x.hold(0, -1), x.become(0, 0), x.as(0, 0));
        due(0, x.untell(0), x.untell(1), x.fewest(), x.check(), x.then(60, 0), x.then(60, 1), x.hours(60));
        due(NONE, x.restore(), x.body(0), x.put(0, 0, 0), x.way(0, 1));
        due(STATE, x.odds(0, 0));
        for (int f = 0; f < 7; f++) due(20, x.grass(f, 20));
        // one object knows nothing of another one
        GateMinds y = full();
        y.seed(3);
        y.image();
        x = new GateMinds();
        for (int k = 1; k <= 6; k++) due(0, x.told(k));
        due(0, x.count(0), x.count(1), x.count(2));
        due(1, x.seed(0), x.image());
    }

    private static void person() {
        about("Promise 2: One of PEOPLE more (km: 10 times the KIND, and m): the number. BEYOND. FULL.");
        GateMinds x = new GateMinds();
        due(BEYOND, x.person(-1), x.person(70), x.person(-10), x.person(79), x.person(MIN), x.person(MAX));
        due(0, x.count(0), x.person(0));
        due(1, x.person(69));
        due(2, x.person(60));
        due(3, x.person(9));
        due(4, x.person(10));
        due(5, x.person(59));
        due(FULL, x.person(0), x.person(69));
        due(BEYOND, x.person(-1), x.person(70));
        due(6, x.count(0), x.personIs(1, 0), x.personIs(2, 0));
        due(9, x.personIs(1, 1), x.personIs(3, 1), x.personIs(5, 1));
        due(0, x.personIs(0, 0), x.personIs(0, 1), x.personIs(2, 1), x.personIs(3, 0), x.personIs(4, 1));
        due(1, x.personIs(4, 0));
        due(5, x.personIs(5, 0));
    }

    private static void personIs() {
        about("Promise 3: Of one: 0 KIND, 1 m, 2 how many GATES one HOLDS, 3 LOAD, 4 ROOM (any number). BEYOND.");
        GateMinds x = new GateMinds();
        due(BEYOND, x.personIs(0, 0));
        x = full();
        due(BEYOND, x.personIs(6, 0), x.personIs(-1, 0), x.personIs(MIN, 0), x.personIs(MAX, 0));
        due(BEYOND, x.personIs(0, 5), x.personIs(0, -1), x.personIs(5, MIN), x.personIs(5, MAX));
        due(0, x.personIs(5, 0), x.personIs(5, 1), x.personIs(5, 2), x.personIs(5, 3));
        due(10, x.personIs(5, 4));
        for (int g = 0; g < 9; g++) x.hold(g, 5);
        due(9, x.personIs(5, 2));
        due(45, x.personIs(5, 3));
        due(0, x.personIs(4, 2), x.personIs(4, 3));
        x.become(5, 69);
        due(6, x.personIs(5, 0));
        due(9, x.personIs(5, 1), x.personIs(5, 2));
        due(54, x.personIs(5, 3));
        due(0, x.personIs(5, 4));
    }

    private static void become() {
        about("Promise 4: One becomes one of a KIND, with m (km): the KIND that one was. BEYOND.");
        GateMinds x = new GateMinds();
        due(BEYOND, x.become(0, 0));
        x = full();
        due(BEYOND, x.become(6, 0), x.become(-1, 0), x.become(MIN, 0), x.become(MAX, 0));
        due(BEYOND, x.become(0, -1), x.become(0, 70), x.become(5, MIN), x.become(5, MAX), x.become(6, 70));
        due(0, x.become(5, 69), x.become(0, 0), x.become(0, 9));
        due(6, x.become(5, 60));
        due(6, x.become(5, 10));
        due(1, x.become(5, 9));
        due(0, x.personIs(5, 0));
        due(9, x.personIs(5, 1), x.personIs(0, 1));
        due(6, x.count(0));
        // what one HOLDS one HOLDS on
        x.hold(8, 5);
        x.become(5, 20);
        due(5, x.gateIs(8, 3));
        due(1, x.personIs(5, 2));
    }

    private static void as() {
        about("Promise 5: One as one of a KIND: m. BEYOND. KIND: one isn't of that KIND, nor of one under it.");
        GateMinds x = new GateMinds();
        due(BEYOND, x.as(0, 0));
        x = people(0, 12, 23, 34, 45, 56);
        due(BEYOND, x.as(6, 0), x.as(-1, 0), x.as(0, 7), x.as(0, -1), x.as(MIN, 0), x.as(0, MIN), x.as(MAX, 0), x.as(0, MAX));
        String[] under = {"1000000", "1100000", "1010000", "1001000", "1100100", "1010010"};
        int[] numbers = {0, 2, 3, 4, 5, 6};
        for (int p = 0; p < 6; p++) {
            for (int kind = 0; kind < 7; kind++) due(under[p].charAt(kind) == '1' ? numbers[p] : KIND, x.as(p, kind));
        }
        due(29, x.told(5));
        x.become(5, 69);
        due(9, x.as(5, 0), x.as(5, 6));
        due(KIND, x.as(5, 5), x.as(5, 1), x.as(5, 2), x.as(5, 3), x.as(5, 4));
    }

    private static void gate() {
        about("Promise 6: One more GATE: the number. BEYOND: also one FIELD twice. FULL.");
        GateMinds x = new GateMinds();
        for (int f = -1; f <= 7; f++) due(BEYOND, x.gate(f, f, 0));
        due(BEYOND, x.gate(7, 6, 0), x.gate(6, 7, 0), x.gate(-1, 0, 0), x.gate(0, -1, 0), x.gate(MIN, 0, 0), x.gate(0, MAX, 0));
        due(BEYOND, x.gate(0, 6, -1), x.gate(0, 6, 10), x.gate(0, 6, MIN), x.gate(0, 6, MAX));
        due(0, x.count(1), x.gate(0, 6, 0));
        due(1, x.gate(6, 0, 9));
        for (int g = 2; g < 9; g++) due(g, x.gate(0, 6, 5));
        due(FULL, x.gate(0, 6, 0), x.gate(6, 0, 9));
        due(BEYOND, x.gate(3, 3, 0), x.gate(0, 7, 0), x.gate(0, 6, 10));
        due(9, x.count(1), x.gateIs(1, 2));
        due(511, x.count(5));
    }

    private static void gateIs() {
        about("Promise 7: Of a GATE: 0, 1 the FIELDS, 2 HEAVY, 3 by whom it is HELD (-1: nobody). BEYOND.");
        GateMinds x = new GateMinds();
        due(BEYOND, x.gateIs(0, 0));
        x.person(0);
        x.gate(0, 6, 0);
        due(BEYOND, x.gateIs(1, 0), x.gateIs(-1, 0), x.gateIs(0, -1), x.gateIs(0, 4));
        for (int g = 1; g < 9; g++) x.gate(6, 0, 9);
        due(BEYOND, x.gateIs(9, 0), x.gateIs(-1, 0), x.gateIs(8, 4), x.gateIs(8, -1), x.gateIs(MIN, 0), x.gateIs(0, MIN), x.gateIs(MAX, 0), x.gateIs(0, MAX));
        due(0, x.gateIs(0, 0), x.gateIs(0, 2), x.gateIs(8, 1));
        due(6, x.gateIs(0, 1), x.gateIs(8, 0));
        due(9, x.gateIs(8, 2));
        due(-1, x.gateIs(0, 3), x.gateIs(8, 3));
        x.hold(8, 0);
        due(0, x.gateIs(8, 3));
        due(-1, x.gateIs(7, 3), x.hold(7, -1), x.gateIs(7, 3));
    }

    private static void hold() {
        about("Promise 8: A GATE is HELD by one (-1: by nobody): by whom it was. BEYOND.");
        GateMinds x = people(0);
        due(BEYOND, x.hold(0, 0), x.hold(0, -1));
        x = new GateMinds();
        x.gate(0, 1, 0);
        due(BEYOND, x.hold(0, 0));
        due(-1, x.hold(0, -1));
        x = full();
        due(BEYOND, x.hold(9, 0), x.hold(-1, 0), x.hold(0, 6), x.hold(0, -2), x.hold(MIN, 0), x.hold(0, MIN), x.hold(MAX, 0), x.hold(0, MAX), x.hold(9, -1));
        due(511, x.count(5));
        due(-1, x.hold(8, 5), x.hold(0, 0), x.hold(7, -1));
        due(5, x.hold(8, 5), x.hold(8, 0));
        due(0, x.hold(8, -1), x.hold(0, -1));
        due(511, x.count(5));
        // no more may be HELD than there is ROOM for, but for AN HOUR: any may come to hold all
        for (int g = 0; g < 9; g++) due(-1, x.hold(g, 5));
        due(0, x.count(5));
    }

    private static void pass() {
        about("Promise 9: All that one HOLDS another one HOLDS from now on: how many. BEYOND: also one and the same.");
        GateMinds x = people(0);
        due(BEYOND, x.pass(0, 0), x.pass(0, 1), x.pass(1, 0), x.pass(-1, 0), x.pass(0, -1));
        x = full();
        for (int p = 0; p < 6; p++) due(BEYOND, x.pass(p, p), x.pass(p, 6), x.pass(6, p), x.pass(-1, p), x.pass(p, -1));
        due(BEYOND, x.pass(MIN, 0), x.pass(0, MAX), x.pass(6, 6), x.pass(-1, -1));
        due(0, x.pass(0, 5), x.pass(5, 0));
        due(511, x.count(5));
        for (int g = 0; g < 9; g++) x.hold(g, 0);
        due(9, x.pass(0, 5), x.personIs(5, 2));
        due(0, x.pass(0, 5), x.personIs(0, 2), x.count(5));
        x.hold(0, 1);
        due(8, x.pass(5, 0));
        due(1, x.gateIs(0, 3), x.pass(1, 0));
        due(9, x.personIs(0, 2));
    }

    private static void stock() {
        about("Promise 10: One more of STOCK: the number. BEYOND. FULL.");
        GateMinds x = new GateMinds();
        due(BEYOND, x.stock(-1), x.stock(7), x.stock(MIN), x.stock(MAX));
        due(0, x.count(2), x.stock(0));
        due(1, x.stock(6));
        for (int b = 2; b < 6; b++) due(b, x.stock(3));
        due(FULL, x.stock(0), x.stock(6));
        due(BEYOND, x.stock(-1), x.stock(7));
        due(6, x.count(2), x.stockAt(1));

        about("Promise 11: AT which FIELD a beast is. BEYOND.");
        due(BEYOND, x.stockAt(6), x.stockAt(-1), x.stockAt(MIN), x.stockAt(MAX), new GateMinds().stockAt(0));
        due(0, x.stockAt(0));
        due(6, x.stockAt(1));
        due(3, x.stockAt(5));
        x = new GateMinds();
        x.stock(5);
        due(BEYOND, x.stockAt(1));
        due(5, x.stockAt(0));
    }

    private static void grass() {
        about("Promise 12: GRASS of a FIELD becomes v: what it was. BEYOND.");
        GateMinds x = new GateMinds();
        due(BEYOND, x.grass(7, 0), x.grass(-1, 0), x.grass(MIN, 0), x.grass(MAX, 0));
        due(BEYOND, x.grass(0, 100), x.grass(6, -1), x.grass(0, MIN), x.grass(6, MAX), x.grass(7, 100));
        due(20, x.grass(0, 0), x.grass(6, 99), x.grass(3, 1));
        due(0, x.grass(0, 99));
        due(99, x.grass(6, 0), x.grass(0, 20));
        due(1, x.grass(3, 98));
        due(98, x.grass(3, 3));
        due(20, x.grass(1, 1), x.grass(2, 2), x.grass(4, 4), x.grass(5, 5));
    }

    private static void feed() {
        about("Promise 13: The n lowest bytes (1 .. 8) of a word, the lowest first, come to THE TAPE: how many there are. BEYOND. FULL.");
        GateMinds x = new GateMinds();
        due(BEYOND, x.feed(-1L, 0), x.feed(-1L, 9), x.feed(-1L, -1), x.feed(-1L, MIN), x.feed(-1L, MAX));
        due(0, x.count(6));
        // of 8 bytes 1 to 8: 1+2+3+4+ and so on, what stands above them doesn't come
        long word = 0x2b342b332b322b31L;
        int[] sums = {1, -12, 3, -14, 6, -16, 10, -18};
        for (int n = 1; n <= 8; n++) {
            due(n, x.feed(word, n), x.count(6));
            int read = x.text(1);
            due(sums[n - 1], read == 1 ? x.law(1, 0, 0, 0) : read);
        }
        // the highest byte of a word below 0 is 255 and not -1, and nothing
        x.feed(0xff2b312b312b312bL, 1);
        due(-10, x.text(1));
        x.feed(0xff312b312b312b31L, 8);
        due(-10 - 7, x.text(1));
        x.feed(0x80L, 1);
        due(-10, x.text(1));
        // to the last byte of THE TAPE, and not one beyond it
        for (int n = 1; n <= 8; n++) {
            x = filled(60 - n);
            due(60, x.feed(word, n), x.count(6));
            x = filled(61 - n);
            due(FULL, x.feed(word, n));
            due(61 - n, x.count(6));
        }
        due(BEYOND, x.feed(0L, 0), x.feed(0L, 9));
    }

    /** One whose TAPE has so many bytes of 0. */
    private static GateMinds filled(int bytes) {
        GateMinds x = new GateMinds();
        for (int left = bytes; left > 0; left -= 8) x.feed(0L, Math.min(8, left));
        return x;
    }

    /** A TEXT of 60 bytes that gives 40. */
    private static final String LONGEST = "1+1+1+1+1+1+1+1+1+1+1+1+1+1+1+1+1+1+1+1+1+1+1+1+1+1+1+1+1+11";

    private static void text() {
        about("Promise 14: THE TAPE, which is empty then, is the TEXT of a USE (0, 1), in place of one ahead: 1. BEYOND (THE TAPE stays).");
        GateMinds x = new GateMinds();
        due(60, feed(x, LONGEST));
        due(BEYOND, x.text(2), x.text(-1), x.text(MIN), x.text(MAX));
        due(60, x.count(6));
        due(1, x.text(1));
        due(0, x.count(6));
        due(40, x.law(1, 9, 9, 9));
        due(9, x.law(0, 9, 8, 8));
        // 60 bytes of which each one counts
        due(1, text(x, 1, "!" + LONGEST.substring(0, 59)));
        due(29, x.law(1, 9, 9, 9));
        due(1, text(x, 1, "!1"), text(x, 0, "!!!!!g"));
        // a shorter one in place of one ahead: nothing of that one is left
        due(1, text(x, 1, "g"), text(x, 0, "5"));
        due(9, x.law(1, 9, 8, 8));
        due(5, x.law(0, 9, 8, 8));
        due(1, text(x, 0, "w+h+g"), text(x, 1, LONGEST), text(x, 0, "h"));
        due(8, x.law(0, 9, 8, 7));
        due(40, x.law(1, 9, 8, 7));
    }

    private static void faults() {
        about("Promise 14: -10 less the FAULT (no ERROR; the one ahead stays; THE TAPE is empty, too).");
        GateMinds x = new GateMinds();
        due(-10, x.text(0), x.text(1), text(x, 0, "f"), text(x, 1, "w"));
        due(0, x.untell(0), x.untell(1), x.count(6));
        due(1, text(x, 0, "7"));
        due(-10, x.text(0), text(x, 0, " 8"));
        due(-11, text(x, 0, "8 "), text(x, 0, "("));
        due(0, x.count(6));
        due(7, x.law(0, 1, 1, 1));
        due(-10 - 60, text(x, 0, LONGEST.substring(0, 59) + "+"));
        due(-10 - 59, text(x, 0, LONGEST.substring(0, 59) + ")"));
        due(0, x.count(6));
        due(7, x.law(0, 1, 1, 1));
        for (int k = 1; k <= 6; k++) due(0, x.told(k));
        due(1, x.untell(0), text(x, 0, "8"));
        due(8, x.law(0, 1, 1, 1));
    }

    private static void untell() {
        about("Promise 15: There is no TEXT of a USE any more: 1 if there was, else 0. BEYOND.");
        GateMinds x = new GateMinds();
        due(0, x.untell(0), x.untell(1));
        due(BEYOND, x.untell(2), x.untell(-1), x.untell(MIN), x.untell(MAX));
        text(x, 0, "0");
        text(x, 1, "1");
        due(BEYOND, x.untell(2), x.untell(-1));
        due(0, x.law(0, 9, 9, 9));
        due(1, x.untell(0), x.law(1, 9, 9, 9));
        due(9, x.law(0, 9, 9, 9));
        due(0, x.untell(0));
        due(1, x.untell(1));
        due(0, x.untell(1), x.untell(0));
        due(9, x.law(1, 9, 9, 9));
        // THE TAPE is no TEXT yet
        feed(x, "3");
        due(0, x.untell(0));
        due(1, x.text(0), x.untell(0));
    }

    private static void law() {
        about("Promise 16: What a USE gives with its NAMES in order as a, b, c (any number). BEYOND.");
        GateMinds x = new GateMinds();
        due(BEYOND, x.law(2, 0, 0, 0), x.law(-1, 0, 0, 0), x.law(MIN, 0, 0, 0), x.law(MAX, 0, 0, 0));
        due(19, x.law(0, 19, MIN, MAX), x.law(0, 20, 0, 0), x.law(0, MAX, 0, 0), x.law(1, 19, 0, 0));
        due(99, x.law(1, 99, MIN, MAX), x.law(1, 100, 0, 0), x.law(1, MAX, 0, 0));
        due(0, x.law(0, 0, 9, 9), x.law(0, -1, 9, 9), x.law(0, MIN, 9, 9), x.law(1, 0, 9, 9), x.law(1, -1, 9, 9), x.law(1, MIN, 9, 9));
        text(x, 0, "w-h-g");
        text(x, 1, "g-f-d");
        due(4, x.law(0, 9, 3, 2), x.law(1, 9, 3, 2), x.law(0, -9, -11, -2), x.law(1, -9, -11, -2));
        // wraps: the least less 1 is the greatest, and so on
        due(19, x.law(0, MIN, 1, 0), x.law(0, 0, MIN, 1), x.law(0, 0, 1, MIN), x.law(0, -1000000001, MAX, 0));
        due(0, x.law(0, MAX, -1, 0), x.law(0, MIN, MIN, 0), x.law(0, 0, 0, MIN), x.law(1, MAX, 0, -1));
        due(99, x.law(1, MIN, 1, 0), x.law(1, MAX, 0, 0));
        due(1, x.law(0, 0, MIN, MAX), x.law(1, 0, MIN, MAX));
        due(0, x.told(2), x.told(3), x.told(4), x.told(5), x.told(6));
        due(4, x.told(1));
    }

    private static void hours() {
        about("Promise 17: n (1 .. 60) HOURS go by: GATES that are OPEN, as a set. BEYOND. STATE: HOUR would be above 9999.");
        GateMinds x = new GateMinds();
        due(BEYOND, x.hours(0), x.hours(61), x.hours(-1), x.hours(-60), x.hours(MIN), x.hours(MAX));
        due(0, x.count(3), x.hours(1), x.hours(60));
        due(61, x.count(3));
        due(511, full().hours(1), full().hours(60));
        for (int n = 1; n <= 60; n++) {
            x.hour(9999 - n);
            due(0, x.hours(n));
            due(9999, x.hour(10000 - n));
            due(STATE, x.hours(n));
            due(10000 - n, x.count(3));
        }
        x.hour(9999);
        due(BEYOND, x.hours(0), x.hours(61), x.hours(MAX), x.hours(MIN));
        // one a GATE: to the ninth, by the HOURS that it takes
        x = people(0);
        text(x, 0, "19");
        for (int g = 0; g < 9; g++) {
            x.gate(0, 1, 0);
            x.hold(g, 0);
        }
        for (int n = 1; n <= 9; n++) due((1 << n) - 1, x.hours(1));
        due(511, x.hours(60));
    }

    private static void loose() {
        about("Promise 18: n (1 .. 30) HOURS BY DRAWS: GATES that are OPEN, as a set. BEYOND. STATE: HOUR would be above 9999.");
        GateMinds x = new GateMinds();
        due(BEYOND, x.loose(0), x.loose(31), x.loose(-1), x.loose(60), x.loose(MIN), x.loose(MAX));
        due(0, x.count(3), x.loose(1), x.loose(30));
        due(31, x.count(3));
        for (int n = 1; n <= 30; n++) {
            x.hour(9999 - n);
            due(0, x.loose(n));
            due(9999, x.hour(10000 - n));
            due(STATE, x.loose(n));
            due(10000 - n, x.count(3));
        }
        x.hour(9999);
        due(BEYOND, x.loose(0), x.loose(31), x.loose(MAX), x.loose(MIN));
        due(1, x.count(9));
        // nobody who could hold one: all of them OPEN, and nothing drawn; then as many draws as HOURS
        x = new GateMinds();
        for (int g = 0; g < 9; g++) x.gate(0, 1, 0);
        due(511, x.loose(30));
        due(1, x.count(9));
        x.person(0);
        x.hour(9990);
        due(STATE, x.loose(10));
        due(1, x.count(9));
        x.loose(9);
        due(1116175964, x.count(9));
    }

    private static void hourAndSeed() {
        about("Promise 19: HOUR becomes v: what it was. BEYOND.");
        GateMinds x = new GateMinds();
        due(BEYOND, x.hour(-1), x.hour(10000), x.hour(MIN), x.hour(MAX));
        due(0, x.count(3), x.hour(9999));
        due(9999, x.hour(9999), x.hour(1));
        due(1, x.hour(0));
        due(0, x.hour(0), x.count(3));

        about("Promise 20: z becomes v: what it was (any number).");
        due(1, x.seed(MIN));
        due(MIN, x.seed(MAX));
        due(MAX, x.seed(0));
        due(0, x.seed(-1));
        due(-1, x.seed(-1000000001));
        due(-1000000001, x.seed(-1000000006));
        due(-1000000006, x.count(9), x.seed(1));
        due(4, x.told(1));
        due(0, x.told(2), x.told(6));
    }

    private static void then() {
        about("Promise 21: THEN, for n (0 .. 60): what 0 GATES that are OPEN, as a set, 1 STRAYS. BEYOND.");
        GateMinds x = new GateMinds();
        due(BEYOND, x.then(-1, 0), x.then(61, 0), x.then(-1, 1), x.then(61, 1), x.then(0, -1), x.then(0, 2), x.then(60, 2));
        due(BEYOND, x.then(MIN, 0), x.then(MAX, 0), x.then(0, MIN), x.then(0, MAX), x.then(MIN, MAX));
        due(0, x.then(0, 0), x.then(0, 1), x.then(60, 0), x.then(60, 1));
        x = dailyGates();
        due(0, x.then(0, 0), x.then(11, 0));
        due(1, x.then(12, 0), x.then(35, 0));
        due(3, x.then(36, 0), x.then(59, 0));
        due(7, x.then(60, 0));
        due(0, x.count(3), x.count(5), x.then(60, 1));
        // the last HOUR is none that can go by, but it can be thought of
        x.hour(9999);
        due(STATE, x.hours(1));
        due(0, x.then(20, 0));
        due(1, x.then(21, 0));
        due(3, x.then(60, 0));
    }

    private static void first() {
        about("Promise 22: FIRST. BEYOND. NONE: not by 60.");
        GateMinds x = new GateMinds();
        due(BEYOND, x.first(0), x.first(-1));
        x = dailyGates();
        due(BEYOND, x.first(3), x.first(-1), x.first(MIN), x.first(MAX));
        due(60, x.first(2));
        x.hour(23);
        due(NONE, x.first(2));
        due(37, x.first(1));
        x.hour(0);
        x.untell(0);
        due(NONE, x.first(0), x.first(1), x.first(2));
        x.hold(2, -1);
        due(0, x.first(2));
        x = full();
        due(0, x.first(0), x.first(8));
        due(BEYOND, x.first(9));
    }

    private static void fewest() {
        about("Promise 23: FEWEST (0, if there are no GATES). NONE: not among all.");
        GateMinds x = new GateMinds();
        due(0, x.fewest());
        due(0, people(0, 0, 0, 0, 0, 0).fewest(), people(60).fewest());
        x.gate(0, 1, 0);
        due(NONE, x.fewest());
        x.person(0);
        due(1, x.fewest());
        x = full();
        due(5, x.fewest());
        text(x, 0, "10");
        due(NONE, x.fewest());
        text(x, 0, "10*(g<6)");
        due(6, x.fewest());
        text(x, 0, "10*(g<6)+(g=8)");
        due(NONE, x.fewest());
        text(x, 0, "0");
        due(1, x.fewest());
        due(2, x.told(2));
    }

    private static void way() {
        about("Promise 24: A WAY: how many. BEYOND. NONE: there is none.");
        GateMinds x = new GateMinds();
        due(NONE, x.way(0, 6), x.way(6, 0));
        for (int f = 0; f < 7; f++) due(0, x.way(f, f));
        x = full();
        due(BEYOND, x.way(7, 0), x.way(0, 7), x.way(-1, 0), x.way(0, -1), x.way(7, 7), x.way(-1, -1), x.way(MIN, 0), x.way(0, MAX));
        due(1, x.way(0, 6), x.way(6, 0), x.way(0, 1));
        due(3, x.way(0, 3), x.way(0, 4), x.way(6, 2));
        x = new GateMinds();
        for (int f = 0; f < 5; f++) x.gate(f, f + 1, 0);
        due(5, x.way(0, 5));
        due(NONE, x.way(0, 6), x.way(6, 5));
        x.gate(5, 6, 0);
        due(6, x.way(0, 6), x.way(6, 0));
    }

    private static void cut() {
        about("Promise 25: CUT: what 0 how many, 1 the set. BEYOND: also one FIELD twice.");
        GateMinds x = full();
        for (int f = -1; f <= 7; f++) due(BEYOND, x.cut(f, f, 0), x.cut(f, f, 1), x.cut(f, 7, 0), x.cut(-1, f, 0));
        due(BEYOND, x.cut(0, 1, 2), x.cut(0, 1, -1), x.cut(0, 1, MIN), x.cut(0, 1, MAX), x.cut(MIN, 0, 0), x.cut(0, MAX, 0));
        due(3, x.cut(0, 1, 0), x.cut(1, 0, 0), x.cut(1, 2, 0));
        due(1 + 4 + 128, x.cut(0, 1, 1));
        due(4 + 8, x.cut(0, 3, 1));
        due(4 + 64, x.cut(0, 6, 1));
        due(0, new GateMinds().cut(0, 6, 0), new GateMinds().cut(6, 0, 1));
    }

    private static void roams() {
        about("Promise 26: ROAMS, as a set. BEYOND.");
        GateMinds x = full();
        due(BEYOND, x.roams(7), x.roams(-1), x.roams(MIN), x.roams(MAX));
        for (int f = 0; f < 7; f++) due(127, x.roams(f));
        for (int g = 0; g < 9; g++) x.hold(g, 5);
        for (int f = 0; f < 7; f++) due(1 << f, x.roams(f));
        due(64, new GateMinds().roams(6));
        due(1, new GateMinds().roams(0));
    }

    private static void odds() {
        about("Promise 27: ODDS: part 0 above, 1 below the line. BEYOND. STATE: there are no GATES.");
        GateMinds x = new GateMinds();
        due(STATE, x.odds(0, 0), x.odds(6, 1), x.odds(6, 0));
        due(BEYOND, x.odds(7, 0), x.odds(-1, 0), x.odds(0, 2), x.odds(0, -1));
        x = full();
        due(BEYOND, x.odds(7, 0), x.odds(-1, 1), x.odds(0, 2), x.odds(0, -1), x.odds(MIN, 0), x.odds(MAX, 0), x.odds(0, MIN), x.odds(0, MAX));
        due(0, x.odds(0, 0), x.odds(6, 0));
        due(1, x.odds(0, 1), x.odds(6, 1));
        for (int g = 0; g < 9; g++) x.hold(g, 0);
        // at 0 the GATES 0, 6, 7; at 1 0, 1, 7, 8; at 5 two
        due(1, x.odds(0, 0));
        due(3, x.odds(0, 1));
        due(4, x.odds(1, 0));
        due(9, x.odds(1, 1), x.odds(5, 1));
        due(2, x.odds(5, 0));
    }

    private static void fits() {
        about("Promise 28: FITS, by a SHEET. BEYOND. NONE: the SHEET is missing; not by 60.");
        GateMinds x = dailyGates();
        due(BEYOND, x.fits(4), x.fits(-1), x.fits(MIN), x.fits(MAX));
        for (int s = 0; s < 4; s++) {
            due(NONE, x.fits(s));
            due(1, x.sheet(s, 8, 0));
            due(0, x.fits(s));
            due(1, x.sheet(s, 0, 0));
            due(NONE, x.fits(s));
        }
        x.sheet(0, 8, 3);
        for (int g = 0; g < 3; g++) x.put(0, g, -1);
        due(60, x.fits(0));
        x.hour(23);
        due(NONE, x.fits(0));
        x.hour(9999);
        due(NONE, x.fits(0));
        x.put(0, 2, 0);
        due(45, x.fits(0));
    }

    private static void voice() {
        about("Promise 29: A VOICE of one: any number. BEYOND. PARTED.");
        GateMinds x = new GateMinds();
        due(BEYOND, x.voice(0, 0, 0));
        x = full();
        due(BEYOND, x.voice(6, 0, 0), x.voice(-1, 0, 0), x.voice(0, 4, 0), x.voice(0, -1, 0));
        due(BEYOND, x.voice(MIN, 0, 0), x.voice(MAX, 0, 0), x.voice(5, MIN, 0), x.voice(5, MAX, 0), x.voice(6, 3, 0));
        due(PARTED, x.voice(0, 3, 0), x.voice(0, 3, MIN), x.voice(0, 3, MAX));
        due(0, x.voice(1, 3, 0), x.voice(5, 3, 4));
        due(-1, x.voice(5, 3, 5));
        due(MIN, x.voice(1, 3, MIN), x.voice(0, 0, MIN), x.voice(5, 0, MAX - 4));
        due(MIN + 4, x.voice(5, 0, MAX));
        due(-1000000001, x.voice(0, 0, -1000000001));
        due(-1000000002, x.voice(0, 2, 1647483647));
        due(3, x.told(6));
        due(9, x.told(1));
    }

    private static void body() {
        about("Promise 30: THE TRACE's i-th. NONE: there is none such.");
        GateMinds x = people(41);
        due(NONE, x.body(0), x.body(-1), x.body(MIN), x.body(MAX));
        x.voice(0, 2, 0);
        due(51, x.body(0));
        due(10, x.body(5));
        due(NONE, x.body(6), x.body(29), x.body(30), x.body(-1), x.body(MIN), x.body(MAX));
        x.voice(0, 0, 0);
        due(10, x.body(2));
        due(NONE, x.body(3), x.body(5));
        due(0, x.told(1));
        due(12, x.told(2));
    }

    private static void sheet() {
        about("Promise 31: A SHEET has n numbers, all 0, of so many bits (8, 16, 32; 0: it is missing, n doesn't matter): 1. BEYOND. STATE: n is below 0 (ahead of BEYOND of n).");
        GateMinds x = new GateMinds();
        for (int bits : new int[] {8, 16, 32}) {
            for (int n = 0; n <= 24; n++) due(1, x.sheet(3, bits, n));
            due(STATE, x.sheet(3, bits, -1), x.sheet(3, bits, MIN), x.sheet(3, bits, -25));
            due(BEYOND, x.sheet(3, bits, 25), x.sheet(3, bits, MAX));
            due(BEYOND, x.sheet(4, bits, 1), x.sheet(-1, bits, 1), x.sheet(4, bits, -1), x.sheet(-1, bits, 25));
            // 24 numbers as they were, all 0
            due(24, x.move(3, 0, 3, 0, 24));
            due(BEYOND, x.move(3, 0, 3, 0, 25));
        }
        for (int n : new int[] {0, -1, 25, MIN, MAX}) {
            due(1, x.sheet(3, 8, 1), x.sheet(3, 0, n));
            due(NONE, x.put(3, 0, 0));
            due(BEYOND, x.sheet(4, 0, n), x.sheet(-1, 0, n), x.sheet(0, 4, n), x.sheet(0, -8, n));
        }
        // all 0, be there other numbers ahead, and be they cut off for a time
        for (int f = 0; f < 7; f++) x.grass(f, 0);
        x.sheet(0, 8, 7);
        for (int i = 0; i < 7; i++) x.put(0, i, 5);
        due(0, x.judge(0));
        due(1, x.sheet(0, 8, 7));
        due(7, x.judge(0));
        x.put(0, 6, 5);
        due(6, x.judge(0));
        x.sheet(0, 8, 1);
        due(1, x.judge(0));
        x.sheet(0, 16, 24);
        due(7, x.judge(0));
    }

    private static void put() {
        about("Promise 32: BEYOND: no such SHEET. NONE: it is missing. BEYOND: no such number.");
        GateMinds x = new GateMinds();
        due(BEYOND, x.put(4, 0, 0), x.put(-1, 0, 0), x.put(MIN, -1, 0), x.put(MAX, 99, 0));
        due(NONE, x.put(0, 0, 0), x.put(3, -1, 0), x.put(3, MAX, 0));
        due(1, x.sheet(0, 8, 0), x.sheet(1, 16, 1), x.sheet(2, 32, 24));
        due(BEYOND, x.put(0, 0, 0), x.put(0, -1, 0), x.put(0, 1, 0));
        due(BEYOND, x.put(1, 1, 0), x.put(1, -1, 0), x.put(2, 24, 0), x.put(2, -1, 0), x.put(2, MIN, 0), x.put(2, MAX, 0));
        due(1, x.put(1, 0, MIN), x.put(2, 0, MAX), x.put(2, 23, 0));
        due(NONE, x.put(3, 0, 0));
    }

    /** Whether of SHEETS of 8, 16 and 32 bits a number is, once it was put, what GRASS of FIELD 0 is. */
    private static void grassy(GateMinds x, int v, int byEight, int bySixteen, int by32) {
        for (int s = 0; s < 3; s++) due(1, x.put(s, 0, v));
        due(byEight, x.judge(0));
        due(bySixteen, x.judge(1));
        due(by32, x.judge(2));
    }

    private static void lowestBits() {
        about("Promise 32: Number i of a SHEET becomes v (its lowest bits): 1.");
        GateMinds x = people(0, 0);
        for (int s = 0; s < 3; s++) x.sheet(s, s == 0 ? 8 : 16 * s, 1);
        x.grass(0, 99);
        grassy(x, 99, 1, 1, 1);
        grassy(x, 99 + 256, 1, 0, 0);
        grassy(x, 99 - 256, 1, 0, 0);
        grassy(x, 99 + 65536, 1, 1, 0);
        grassy(x, 99 - 65536, 1, 1, 0);
        grassy(x, 99 + MIN, 1, 1, 0);
        grassy(x, 99 + 128, 0, 0, 0);
        grassy(x, 99 + 32768, 1, 0, 0);
        grassy(x, -99, 0, 0, 0);
        x.grass(0, 0);
        grassy(x, 0, 1, 1, 1);
        grassy(x, 256, 1, 0, 0);
        grassy(x, 65536, 1, 1, 0);
        grassy(x, MIN, 1, 1, 0);
        grassy(x, 128, 0, 0, 0);
        // all bits 1 are -1: nobody; less is nobody of PEOPLE and not -1
        x.gate(0, 1, 0);
        holder(x, -1, 1, 1, 1);
        holder(x, 255, 1, 0, 0);
        holder(x, 65535, 1, 1, 0);
        holder(x, MAX, 1, 1, 0);
        holder(x, -2, 0, 0, 0);
        holder(x, 254, 0, 0, 0);
        holder(x, 127, 0, 0, 0);
        holder(x, 128, 0, 0, 0);
        holder(x, 257, 1, 0, 0);
        holder(x, 65537, 1, 1, 0);
    }

    /** For how many GATES SHEETS of 8, 16 and 32 bits tell a holder, once a number was put. */
    private static void holder(GateMinds x, int v, int byEight, int bySixteen, int by32) {
        for (int s = 0; s < 3; s++) due(1, x.put(s, 0, v));
        due(byEight, x.holds(0));
        due(bySixteen, x.holds(1));
        due(by32, x.holds(2));
    }

    private static void move() {
        about("Promise 33: BEYOND: no such SHEET. NONE: one is missing. KIND: they are of unlike bits.");
        GateMinds x = new GateMinds();
        x.sheet(0, 8, 1);
        x.sheet(1, 16, 1);
        x.sheet(2, 32, 0);
        due(BEYOND, x.move(4, 0, 0, 0, 1), x.move(-1, 0, 0, 0, 1), x.move(0, 0, 4, 0, 1), x.move(0, 0, -1, 0, 1), x.move(3, 0, 4, 0, 1), x.move(4, 0, 3, 0, 1));
        due(NONE, x.move(3, 0, 0, 0, 1), x.move(0, 0, 3, 0, 1), x.move(3, 0, 3, 0, 0), x.move(3, -1, 1, -1, -1));
        due(KIND, x.move(0, 0, 1, 0, 1), x.move(1, 0, 2, 0, 0), x.move(2, 0, 0, 0, 0), x.move(0, -1, 1, -1, -1), x.move(0, 9, 1, 9, 9));
        due(6, x.told(1));
        due(4, x.told(2));
        due(5, x.told(5));
    }

    /** Numbers of a SHEET one by one, as GRASS can tell them. */
    private static void rowIs(GateMinds x, int sheet, int... numbers) {
        for (int f = 0; f < numbers.length; f++) x.grass(f, numbers[f]);
        due(numbers.length, x.judge(sheet));
    }

    /** SHEET 0 with 1, 2, .. 5 and SHEET 1 with three of 0. */
    private static GateMinds rows() {
        GateMinds x = new GateMinds();
        x.sheet(0, 16, 5);
        x.sheet(1, 16, 3);
        for (int i = 0; i < 5; i++) x.put(0, i, i + 1);
        return x;
    }

    private static void movePlaces() {
        about("Promise 33: BEYOND: n, i, or j is below 0, or they don't stand there.");
        GateMinds x = rows();
        due(BEYOND, x.move(0, -1, 1, 0, 1), x.move(0, 0, 1, -1, 1), x.move(0, 0, 1, 0, -1), x.move(0, -1, 0, 0, 0), x.move(0, 0, 0, -1, 0));
        due(BEYOND, x.move(0, 5, 1, 0, 1), x.move(0, 3, 1, 0, 3), x.move(0, 0, 1, 3, 1), x.move(0, 0, 1, 1, 3), x.move(0, 0, 1, 0, 4), x.move(0, 0, 0, 0, 6));
        due(BEYOND, x.move(0, 6, 1, 0, 0), x.move(0, 0, 1, 4, 0), x.move(1, 0, 0, 0, 4), x.move(1, 3, 0, 0, 1), x.move(1, 0, 0, 3, 3));
        due(BEYOND, x.move(0, MAX, 1, 0, 1), x.move(0, 0, 1, MAX, 1), x.move(0, 0, 1, 0, MAX), x.move(0, MAX, 1, MAX, MAX), x.move(0, MIN, 1, MIN, MIN));
        due(BEYOND, x.move(0, 1, 1, 0, MAX), x.move(0, 0, 1, 1, MAX), x.move(0, MIN, 1, 0, 1), x.move(0, 0, 1, MIN, 1), x.move(0, 0, 1, 0, MIN));
        rowIs(x, 0, 1, 2, 3, 4, 5);
        rowIs(x, 1, 0, 0, 0);
        due(0, x.move(0, 5, 1, 3, 0), x.move(0, 0, 1, 0, 0), x.move(1, 3, 1, 3, 0));
        rowIs(x, 0, 1, 2, 3, 4, 5);
        rowIs(x, 1, 0, 0, 0);

        about("Promise 33: n numbers of a SHEET, from number i on, come to another one (or the same), from its number j on, as they all were: n.");
        due(1, x.move(0, 4, 1, 2, 1));
        rowIs(x, 1, 0, 0, 5);
        due(3, x.move(0, 0, 1, 0, 3));
        rowIs(x, 1, 1, 2, 3);
        rowIs(x, 0, 1, 2, 3, 4, 5);
        x = rows();
        due(5, x.move(0, 0, 0, 0, 5));
        rowIs(x, 0, 1, 2, 3, 4, 5);
        due(4, x.move(0, 0, 0, 1, 4));
        rowIs(x, 0, 1, 1, 2, 3, 4);
        x = rows();
        due(4, x.move(0, 1, 0, 0, 4));
        rowIs(x, 0, 2, 3, 4, 5, 5);
        x = rows();
        due(3, x.move(0, 0, 0, 2, 3));
        rowIs(x, 0, 1, 2, 1, 2, 3);
    }

    private static void holds() {
        about("Promise 34: Numbers of a SHEET tell by whom GATES 0, 1, .. are HELD from now on (-1: nobody): how many, up to the first that is nobody of PEOPLE and not -1 (no ERROR then), or for which there is no GATE. BEYOND: no such SHEET. NONE: it is missing.");
        GateMinds x = new GateMinds();
        due(BEYOND, x.holds(4), x.holds(-1), x.holds(MIN), x.holds(MAX));
        due(NONE, x.holds(0), x.holds(1), x.holds(2), x.holds(3));
        x.sheet(0, 32, 0);
        x.sheet(1, 32, 24);
        due(0, x.holds(0), x.holds(1));
        x = full();
        x.sheet(0, 32, 24);
        due(9, x.holds(0), x.personIs(0, 2));
        int[] numbers = {5, -1, 0, 5, 6, 0};
        for (int i = 0; i < 6; i++) x.put(0, i, numbers[i]);
        due(4, x.holds(0));
        due(5, x.gateIs(0, 3), x.gateIs(3, 3));
        due(-1, x.gateIs(1, 3));
        due(0, x.gateIs(2, 3), x.gateIs(4, 3), x.gateIs(5, 3));
        // the very first that is nobody: nothing comes of it
        for (int v : new int[] {6, -2, MIN, MAX, 100}) {
            x.put(0, 0, v);
            due(0, x.holds(0));
            due(5, x.gateIs(0, 3));
        }
        // fewer than there are GATES: those ones alone
        x.sheet(1, 8, 1);
        x.put(1, 0, -1);
        due(1, x.holds(1));
        due(-1, x.gateIs(0, 3), x.gateIs(1, 3));
        due(5, x.gateIs(3, 3));
        x.sheet(1, 8, 0);
        due(0, x.holds(1), x.told(1), x.told(2), x.told(5));
        // the ninth is the last one for which there is a GATE
        x.sheet(2, 16, 10);
        for (int i = 0; i < 10; i++) x.put(2, i, -1);
        due(9, x.holds(2));
        due(511, x.count(5));
        x = new GateMinds();
        x.gate(0, 1, 0);
        x.sheet(0, 8, 2);
        due(0, x.holds(0));
        x.put(0, 0, -1);
        x.put(0, 1, -1);
        due(1, x.holds(0));
    }

    private static void judge() {
        about("Promise 35: Numbers of a SHEET are GRASS of FIELDS 0, 1, ..: how many are right, from the first on. BEYOND: no such SHEET. NONE: it is missing.");
        GateMinds x = new GateMinds();
        due(BEYOND, x.judge(4), x.judge(-1), x.judge(MIN), x.judge(MAX));
        due(NONE, x.judge(0), x.judge(1), x.judge(2), x.judge(3));
        x.sheet(0, 8, 24);
        for (int i = 0; i < 24; i++) x.put(0, i, 20);
        due(7, x.judge(0));
        x.sheet(1, 16, 7);
        x.sheet(2, 32, 0);
        due(0, x.judge(1), x.judge(2));
        for (int i = 6; i >= 0; i--) {
            due(0, x.judge(1));
            x.put(1, i, 20);
        }
        due(7, x.judge(1));
        for (int f = 6; f >= 0; f--) {
            x.grass(f, 19);
            due(f, x.judge(0), x.judge(1));
        }
        x.grass(0, 0);
        x.put(1, 0, 0);
        due(1, x.judge(1));
        x.grass(0, 99);
        x.put(1, 0, 99);
        due(1, x.judge(1));
    }

    private static void image() {
        about("Promise 36: All (but SHEETS, THE TRACE, what told() tells, and how often this was done) is kept as an IMAGE, in place of one ahead: how often that was done.");
        GateMinds x = new GateMinds();
        due(NONE, x.restore());
        due(1, x.image());
        due(2, x.image());
        due(0, x.restore());
        due(3, x.image());
        due(1, x.told(2));
        // in place of one ahead
        x.hour(5);
        due(4, x.image());
        x.hour(6);
        due(5, x.image());
        x.hour(7);
        due(6, x.restore(), x.restore(), x.image());
        // what none keeps: SHEETS, THE TRACE, told()
        x.person(0);
        x.person(41);
        x.sheet(0, 8, 2);
        x.voice(1, 2, 0);
        due(7, x.image());
        x.sheet(0, 16, 3);
        x.put(0, 2, 1);
        x.voice(0, 0, 0);
        due(BEYOND, x.hour(-1));
        due(6, x.restore());
        due(1, x.told(1), x.told(2), x.count(8), x.put(0, 2, 65535 + 21), x.put(0, 0, 20), x.put(0, 1, 20));
        due(3, x.judge(0));
        due(10, x.body(0));
        due(8, x.image());
        x.sheet(0, 0, 0);
        due(6, x.restore());
        due(NONE, x.judge(0));
    }

    private static void restore() {
        about("Promise 37: All is as the IMAGE has it, which stays: HOUR. NONE: there is none.");
        GateMinds x = full();
        due(NONE, x.restore());
        due(6, x.count(0), x.count(2));
        x.hour(9999);
        x.seed(MIN);
        text(x, 0, "9");
        feed(x, LONGEST);
        for (int n = 1; n <= 24; n++) due(n, x.tell(n < 7 ? 0 : 5));
        for (int f = 0; f < 7; f++) x.grass(f, 99);
        due(1, x.image());
        for (int n = 0; n < 3; n++) {
            due(1, x.text(1), x.untell(0));
            due(7, x.check());
            due(9999, x.hour(n));
            due(MIN, x.seed(n));
            due(-1, x.hold(8, 5));
            due(1, x.pass(5, 0));
            due(0, x.become(0, 69));
            for (int f = 0; f < 7; f++) due(99, x.grass(f, 0));
            x.hours(60);
            x.loose(30);
            due(9999, x.restore());
            due(0, x.personIs(0, 0), x.personIs(0, 2), x.untell(1), x.count(4));
            due(511, x.count(5));
            due(60, x.count(6));
            due(24, x.count(7));
            due(9, x.law(0, 1, 1, 1));
            for (int b = 0; b < 6; b++) due(b, x.stockAt(b));
        }
        due(FULL, x.person(0), x.gate(0, 1, 0), x.stock(0), x.tell(0), x.feed(0L, 1));
        keptInFull();
        // an IMAGE of nothing: all that came since is gone
        x = new GateMinds();
        x.image();
        x.person(0);
        x.gate(0, 1, 0);
        x.stock(0);
        x.hours(9);
        text(x, 0, "1");
        text(x, 1, "1");
        x.feed(0L, 8);
        x.tell(1);
        x.seed(2);
        due(0, x.restore());
        for (int what = 0; what < 8; what++) due(0, x.count(what));
        due(1, x.count(9));
        due(0, x.untell(0), x.untell(1), x.check(), x.person(0), x.gate(0, 1, 0), x.stock(0));
        due(20, x.grass(0, 1));
        due(-1, x.gateIs(0, 3));
    }

    /** Each thing that an IMAGE keeps becomes another one, and the one that was at last. */
    private static void keptInFull() {
        GateMinds x = people(12, 34);
        x.gate(5, 6, 7);
        x.gate(0, 1, 2);
        x.hold(1, 1);
        x.stock(4);
        x.stock(6);
        x.grass(3, 33);
        x.hour(4321);
        x.seed(-5);
        text(x, 0, "w+3");
        text(x, 1, "f+30");
        feed(x, "1+2");
        x.tell(0);
        x.tell(5);
        due(1, x.image());
        for (int n = 0; n < 2; n++) {
            x.become(0, 56);
            x.become(1, 9);
            x.person(60);
            x.gate(2, 3, 9);
            x.hold(0, 2);
            x.hold(1, 0);
            x.stock(0);
            x.grass(3, 44);
            x.check();
            x.tell(77);
            x.tell(88);
            x.tell(99);
            feed(x, "+g");
            x.text(1);
            feed(x, "9*9");
            x.untell(0);
            x.hours(5);
            x.loose(5);
            due(4321, x.restore());
            due(12, x.personIs(0, 0) * 10 + x.personIs(0, 1));
            due(34, x.personIs(1, 0) * 10 + x.personIs(1, 1));
            due(567, x.gateIs(0, 0) * 100 + x.gateIs(0, 1) * 10 + x.gateIs(0, 2));
            due(12, x.gateIs(1, 0) * 100 + x.gateIs(1, 1) * 10 + x.gateIs(1, 2));
            due(-1, x.gateIs(0, 3));
            due(1, x.gateIs(1, 3), x.count(5));
            due(2, x.count(0), x.count(1), x.count(2), x.count(7));
            due(4, x.stockAt(0));
            due(6, x.stockAt(1));
            due(4321, x.count(3));
            due(0, x.count(4), x.check());
            due(-5, x.count(9));
            due(5, x.law(0, 2, 0, 0));
            due(32, x.law(1, 0, 2, 0));
            due(33, x.grass(3, 1));
            due(3, x.count(6));
            due(1, x.text(1));
            due(3, x.law(1, 0, 0, 0));
            due(4321, x.restore());
        }
        // STRAYS, too, and where the beasts went
        x = new GateMinds();
        x.gate(0, 1, 0);
        x.stock(0);
        x.grass(0, 0);
        x.hours(1);
        x.image();
        x.grass(0, 99);
        x.hours(1);
        due(2, x.count(4));
        due(0, x.stockAt(0));
        x.restore();
        due(1, x.count(4), x.stockAt(0), x.count(3));
    }

    private static void tell() {
        about("Promise 38: One more number waits: how many. FULL: 24 wait.");
        GateMinds x = new GateMinds();
        int[] any = {MIN, MAX, 0, -1000000001};
        for (int n = 1; n <= 24; n++) due(n, x.tell(any[n % 4]));
        due(FULL, x.tell(0), x.tell(MIN));
        due(24, x.count(7));
        due(2, x.told(4));
        x.check();
        due(1, x.tell(0), x.count(7));
    }

    private static void check() {
        about("Promise 39: The numbers that wait (none do then) are LOADS of PEOPLE 0, 1, ..: 0; else 1 and the place (from 0) of the first that isn't so (or for which there is nobody).");
        GateMinds x = new GateMinds();
        due(0, x.check(), x.count(7));
        x.tell(0);
        due(1, x.check());
        due(0, x.count(7), x.check());
        x = full();
        for (int g = 0; g < 6; g++) x.hold(g, g);
        due(0, x.check());
        for (int right = 0; right <= 6; right++) {
            for (int p = 0; p < right; p++) x.tell(5);
            due(0, x.check());
            for (int p = 0; p < right; p++) x.tell(5);
            x.tell(right == 0 ? -5 : 4);
            x.tell(5);
            due(right + 1, x.check());
            due(0, x.count(7), x.check());
        }
        // the seventh is nobody's, be it 0 or what it likes
        for (int p = 0; p < 6; p++) x.tell(5);
        for (int n = 7; n <= 24; n++) due(n, x.tell(0));
        due(7, x.check());
        due(0, x.check(), x.count(7));
        due(0, x.told(1), x.told(2), x.told(4));
    }

    private static void count() {
        about("Promise 40: 0 PEOPLE, 1 GATES, 2 STOCK, 3 HOUR, 4 STRAYS, 5 GATES that are OPEN, as a set, 6 bytes of THE TAPE, 7 numbers that wait, 8 BODIES in THE TRACE, 9 z (any number). BEYOND.");
        GateMinds x = full();
        due(BEYOND, x.count(10), x.count(-1), x.count(MIN), x.count(MAX));
        due(6, x.count(0), x.count(2));
        due(9, x.count(1));
        due(0, x.count(3), x.count(4), x.count(6), x.count(7), x.count(8));
        due(511, x.count(5));
        due(1, x.count(9));
        for (int g = 0; g < 9; g++) {
            x.hold(g, 0);
            due(511 - (2 << g) + 1, x.count(5));
        }
        x.hour(9999);
        x.seed(-1000000003);
        for (int n = 0; n < 24; n++) x.tell(0);
        feed(x, LONGEST);
        due(9999, x.count(3));
        due(60, x.count(6));
        due(24, x.count(7));
        // an answer that looks like an ERROR is none
        due(-1000000003, x.count(9));
        due(0, x.told(3), x.told(4));
    }

    private static void told() {
        about("Promise 41: How many acts have answered an ERROR LOW - k (k 1 .. 6); BEYOND: another k (counted, too).");
        GateMinds x = people(0);
        for (int k = 1; k <= 6; k++) due(0, x.told(k));
        due(BEYOND, x.told(0), x.told(7));
        due(2, x.told(1));
        due(BEYOND, x.told(-1), x.told(MIN), x.told(MAX));
        due(5, x.told(1));
        due(NONE, x.restore());
        due(1, x.told(2));
        due(STATE, x.odds(0, 0));
        due(1, x.told(3));
        for (int n = 0; n < 24; n++) x.tell(0);
        due(0, x.told(4));
        due(FULL, x.tell(0));
        due(1, x.told(4));
        due(KIND, x.as(0, 6));
        due(1, x.told(5));
        due(PARTED, x.voice(0, 3, 0));
        due(1, x.told(2), x.told(3), x.told(4), x.told(5), x.told(6));
        due(5, x.told(1));
    }
}
