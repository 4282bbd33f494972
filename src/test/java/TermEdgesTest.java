/**
 * Each sentence of the document's head and Terms that names a boundary has a test of its own here, under its own
 * words; answers worked out by hand. That a refused call changes nothing is RefusalTest's.
 */
public final class TermEdgesTest extends Checks {
    public static void main(String[] args) {
        lastCall();
        errors();
        order();
        quotients();
        fieldsAndGrass();
        gates();
        stockAndHour();
        peopleAndNumbers();
        roomOfLoverAndThinker();
        roomOfBoyAndGroom();
        roomOfAmosAndGuest();
        costs();
        costsByWhoHolds();
        loads();
        byNumbers();
        lettingGo();
        grazing();
        strays();
        grassAndHour();
        loose();
        draws();
        tape();
        chains();
        grammar();
        openSigns();
        arithmetic();
        truth();
        fault();
        faultOfEachByte();
        weighing();
        drawing();
        thought();
        firsts();
        fewest();
        ways();
        cuts();
        roamsAndOdds();
        fits();
        voicesWrap();
        parted();
        bodies();
        trace();
        sheets();
        end();
    }

    private static void lastCall() {
        about("Head: An object is used for at most 512 calls after it has been made; what later calls answer is free.");
        GateMinds x = new GateMinds();
        for (int n = 1; n <= 511; n++) due(BEYOND, x.count(-1));
        due(511, x.told(1));
        x = new GateMinds();
        for (int n = 1; n <= 512; n++) due(n, x.image());
        // an object as full as one may be, to its last call: 21 made it, two gates of HEAVY 5 are all that a man holds
        x = full();
        for (int n = 22; n <= 510; n += 3) {
            due(5, x.fewest());
            due(12, x.cut(0, 3, 1));
            due(511, x.then(60, 0));
        }
        due(5, x.fewest());
        due(511, x.count(5));
    }

    private static void errors() {
        about("Terms: ERRORS are answers below -1000000000: LOW is -1000000000; LOW - 1 BEYOND, LOW - 2 NONE, LOW - 3 STATE, LOW - 4 FULL, LOW - 5 KIND, LOW - 6 PARTED");
        GateMinds x = new GateMinds();
        due(-1000000001, x.stockAt(0));
        due(-1000000002, x.restore());
        due(-1000000003, x.odds(0, 0));
        x = full();
        due(-1000000004, x.person(0));
        due(-1000000005, x.as(0, 1));
        due(-1000000006, x.voice(0, 3, 1));
    }

    private static void order() {
        about("Terms: Each act tells its ERRORS in the order in which they are asked");
        GateMinds x = full();
        due(BEYOND, x.person(70), x.person(-1));
        due(BEYOND, x.gate(0, 7, 0), x.gate(-1, 0, 0), x.gate(2, 2, 0), x.gate(0, 1, 10), x.gate(0, 1, -1));
        due(BEYOND, x.stock(7), x.stock(-1));
        due(BEYOND, x.as(6, 1), x.as(-1, 1), x.as(0, 7), x.as(0, -1));
        due(60, feed(x, ones(60)));
        due(BEYOND, x.feed(0L, 9), x.feed(0L, 0));
        x.hour(9999);
        due(BEYOND, x.hours(61), x.hours(0), x.loose(31), x.loose(0));
        due(BEYOND, x.voice(0, 4, 0), x.voice(0, -1, 0), x.voice(6, 3, 0));
        x = new GateMinds();
        due(BEYOND, x.odds(7, 0), x.odds(-1, 0), x.odds(0, 2), x.odds(0, -1));
        due(BEYOND, x.fits(4), x.holds(4), x.judge(4), x.fits(-1), x.holds(-1), x.judge(-1));
        due(BEYOND, x.sheet(4, 8, -1), x.sheet(-1, 8, -1), x.sheet(0, 7, -1), x.sheet(0, 64, -1));
        due(STATE, x.sheet(0, 8, -1), x.sheet(0, 16, MIN));
        due(BEYOND, x.put(4, -1, 0), x.put(-1, 0, 0));
        due(NONE, x.put(0, -1, 0), x.put(0, 24, 0));
        x.sheet(0, 8, 1);
        x.sheet(1, 16, 1);
        due(BEYOND, x.move(2, 0, 4, 0, 0), x.move(4, 0, 2, 0, 0), x.move(-1, -1, 2, -1, -1));
        due(NONE, x.move(0, -1, 2, -1, -1), x.move(2, -1, 1, -1, -1), x.move(2, 0, 3, 0, 0));
        due(KIND, x.move(0, -1, 1, -1, -1), x.move(1, 9, 0, 9, 9));
        due(BEYOND, x.move(0, -1, 0, -1, -1));
    }

    private static void quotients() {
        about("Terms: Quotients are cut toward 0.");
        due(3, value("0-(0-7)/2"), value("0-7/(0-2)"), value("(0-7)/(0-2)"), value("7/2"));
        due(0, value("1/2"), value("(0-1)/2"), value("1/(0-2)"));
        GateMinds x = people(2, 30, 11);
        due(-3, x.voice(0, 3, -7));
        due(3, x.voice(0, 3, 7));
        due(0, x.voice(0, 3, -1));
        // m less k is -1 of the second one, so a boy's parts are whole; half of -7 is -3: (-3 + 1) * 2 - 0
        due(7, x.voice(1, 3, -7));
        due(-4, x.voice(1, 2, -7));
        due(5, x.personIs(2, 4));
    }

    private static void fieldsAndGrass() {
        about("Terms 1: FIELDS 0 .. 6");
        GateMinds x = people(0);
        due(BEYOND, x.gate(7, 0, 0), x.gate(0, 7, 0), x.gate(-1, 6, 0), x.gate(6, -1, 0), x.gate(MAX, MIN, 0));
        due(BEYOND, x.stock(7), x.stock(-1), x.grass(7, 0), x.grass(-1, 0), x.roams(7), x.roams(-1));
        due(BEYOND, x.way(7, 0), x.way(0, 7), x.way(-1, 0), x.way(0, -1), x.way(7, 7), x.way(-1, -1));
        due(BEYOND, x.cut(7, 0, 0), x.cut(0, 7, 0), x.cut(-1, 0, 0), x.cut(0, -1, 0));
        due(0, x.gate(0, 6, 0), x.stock(6), x.way(6, 6), x.way(0, 0), x.cut(5, 0, 0));
        due(1, x.gate(6, 0, 0), x.stock(0), x.way(6, 0), x.odds(6, 1));
        due(BEYOND, x.odds(7, 0), x.odds(-1, 0));
        due(65, x.roams(6), x.roams(0));
        due(20, x.grass(0, 1), x.grass(6, 1));

        about("Terms 1: each with GRASS (0 .. 99; 20 at first)");
        x = new GateMinds();
        for (int f = 0; f < 7; f++) due(20, x.grass(f, 99 - f));
        for (int f = 0; f < 7; f++) due(99 - f, x.grass(f, 0));
        for (int f = 0; f < 7; f++) due(BEYOND, x.grass(f, -1), x.grass(f, 100), x.grass(f, MIN), x.grass(f, MAX));
        for (int f = 0; f < 7; f++) due(0, x.grass(f, 99));
        for (int f = 0; f < 7; f++) due(99, x.grass(f, 99));
    }

    private static void gates() {
        about("Terms 1: GATES 0, 1, .. (at most 9)");
        GateMinds x = people(0);
        for (int g = 0; g < 9; g++) {
            due(BEYOND, x.gateIs(g, 0), x.hold(g, 0), x.first(g));
            due(g, x.gate(0, 1, 0));
        }
        due(FULL, x.gate(0, 1, 0), x.gate(5, 6, 9));
        due(9, x.count(1));
        due(BEYOND, x.gateIs(9, 0), x.gateIs(-1, 0), x.hold(9, 0), x.first(9), x.gateIs(MAX, 0), x.gateIs(MIN, 0));

        about("Terms 1: each between two FIELDS (several may be between the same ones)");
        x = new GateMinds();
        for (int f = 0; f < 7; f++) due(BEYOND, x.gate(f, f, 0));
        due(0, x.count(1), x.gate(3, 4, 0));
        due(1, x.gate(3, 4, 0));
        due(2, x.gate(4, 3, 0));
        due(3, x.cut(3, 4, 0), x.gateIs(0, 0), x.gateIs(1, 0), x.gateIs(2, 1));

        about("Terms 1: HEAVY (0 .. 9)");
        due(BEYOND, x.gate(0, 1, -1), x.gate(0, 1, 10), x.gate(0, 1, MIN), x.gate(0, 1, MAX));
        due(3, x.gate(0, 1, 0));
        due(4, x.gate(0, 1, 9));
        due(0, x.gateIs(3, 2));
        due(9, x.gateIs(4, 2));

        about("Terms 1: HELD by one of PEOPLE, or by nobody (-1; at first): it is OPEN then.");
        x = people(0, 0);
        x.gate(0, 1, 0);
        due(-1, x.gateIs(0, 3), x.hold(0, -1), x.hold(0, 1));
        due(1, x.hold(0, 0), x.roams(0));
        due(0, x.count(5), x.hold(0, -1));
        due(1, x.count(5));
        due(BEYOND, x.hold(0, 2), x.hold(0, -2));
        due(3, x.roams(0));
        // all that one held is OPEN no more when another one comes to hold it
        due(-1, x.hold(0, 0));
        due(1, x.pass(0, 1));
        due(0, x.count(5));
    }

    private static void stockAndHour() {
        about("Terms 1: STOCK 0, 1, .. (at most 6 beasts), each AT a FIELD.");
        GateMinds x = new GateMinds();
        for (int b = 0; b < 6; b++) {
            due(BEYOND, x.stockAt(b));
            due(b, x.stock(6 - b));
        }
        due(FULL, x.stock(0), x.stock(6));
        due(6, x.count(2), x.stockAt(0));
        due(1, x.stockAt(5));
        due(BEYOND, x.stockAt(6), x.stockAt(-1), x.stockAt(MIN), x.stockAt(MAX));

        about("Terms 1: HOUR (0 .. 9999; 0 at first)");
        x = new GateMinds();
        due(0, x.count(3), x.hour(9999));
        due(9999, x.count(3));
        due(BEYOND, x.hour(10000), x.hour(-1));
        due(STATE, x.hours(1), x.loose(1));
        due(9999, x.hour(9998));
        due(0, x.hours(1));
        due(9999, x.hour(9998));
        due(0, x.loose(1));
        due(9999, x.hour(0));
        due(0, x.count(3));

        about("Terms 1: STRAYS (0 .. 9999; 0 at first)");
        due(0, x.count(4));
        x = wanderers();
        for (int n = 0; n < 27; n++) x.hours(60);
        due(9720, x.count(4));
        x.hours(46);
        due(9996, x.count(4));
        due(9999, x.then(1, 1), x.then(60, 1));
        x.hours(1);
        due(9999, x.count(4));
        x.hours(1);
        due(9999, x.count(4));
        x.loose(30);
        due(9999, x.count(4), x.then(0, 1), x.then(1, 1));
    }

    /** Six beasts that go over to another FIELD each HOUR. */
    private static GateMinds wanderers() {
        GateMinds x = new GateMinds();
        for (int b = 0; b < 6; b++) x.stock(0);
        x.gate(0, 1, 0);
        text(x, 1, "f=1-d%2");
        return x;
    }

    private static void peopleAndNumbers() {
        about("Terms 1: PEOPLE 0, 1, .. (at most 6)");
        GateMinds x = new GateMinds();
        x.gate(0, 1, 0);
        for (int p = 0; p < 6; p++) {
            due(BEYOND, x.personIs(p, 0), x.become(p, 0), x.as(p, 0), x.hold(0, p), x.voice(p, 0, 0));
            due(p, x.person(0));
            due(p - 1, x.hold(0, p));
        }
        due(FULL, x.person(0), x.person(69));
        due(6, x.count(0));
        due(BEYOND, x.personIs(6, 0), x.become(6, 0), x.as(6, 0), x.hold(0, 6), x.voice(6, 0, 0), x.pass(0, 6), x.pass(6, 0));
        due(BEYOND, x.personIs(-1, 0), x.become(-1, 0), x.as(-1, 0), x.hold(0, -2), x.voice(-1, 0, 0), x.pass(0, -1), x.pass(-1, 0));

        about("Terms 1: KINDS: 0 MAN, 1 LOVER under MAN, 2 THINKER under MAN, 3 BOY under MAN, 4 GROOM under LOVER, 5 AMOS under THINKER, 6 GUEST under MAN");
        x = people(0);
        String[] under = {"1000000", "1100000", "1010000", "1001000", "1100100", "1010010", "1000001"};
        for (int kind = 0; kind < 7; kind++) {
            x.become(0, 10 * kind + 4);
            for (int above = 0; above < 7; above++) due(under[kind].charAt(above) == '1' ? 4 : KIND, x.as(0, above));
        }
        due(BEYOND, x.as(0, 7), x.as(0, -1));

        about("Terms 1: each with a number m (0 .. 9)");
        x = people(0, 9, 10, 60, 69);
        int[] kinds = {0, 0, 1, 6, 6};
        int[] numbers = {0, 9, 0, 0, 9};
        for (int p = 0; p < 5; p++) {
            due(kinds[p], x.personIs(p, 0));
            due(numbers[p], x.personIs(p, 1));
        }
        due(BEYOND, x.person(70), x.person(-1), x.become(0, 70), x.become(0, -1));
    }

    /** The ROOM of one of these km at these HOURS. */
    private static void room(int km, int[] hours, int... rooms) {
        GateMinds x = people(km);
        for (int i = 0; i < hours.length; i++) {
            x.hour(hours[i]);
            due(rooms[i], x.personIs(0, 4));
        }
    }

    private static final int[] EVER = {0, 9999};

    private static void roomOfLoverAndThinker() {
        about("Terms 1: MAN: 10 and m.");
        room(0, EVER, 10, 10);
        room(9, EVER, 19, 19);

        about("Terms 1: LOVER: half of MAN's (cut).");
        room(10, EVER, 5, 5);
        room(11, EVER, 5, 5);
        room(12, EVER, 6, 6);
        room(19, EVER, 9, 9);

        about("Terms 1: THINKER: 3 times MAN's.");
        room(20, EVER, 30, 30);
        room(29, EVER, 57, 57);
    }

    private static void roomOfBoyAndGroom() {
        about("Terms 1: BOY: as MAN, less the rest of HOUR by 6.");
        int[] hours = {0, 1, 5, 6, 7, 23, 24, 9995, 9996, 9999};
        room(30, hours, 10, 9, 5, 10, 9, 5, 10, 5, 10, 7);
        room(39, hours, 19, 18, 14, 19, 18, 14, 19, 14, 19, 16);

        about("Terms 1: GROOM: as LOVER, and how many GATES he HOLDS.");
        GateMinds x = full();
        x.become(0, 41);
        for (int g = 0; g < 9; g++) {
            due(5 + g, x.personIs(0, 4));
            x.hold(g, 0);
        }
        due(14, x.personIs(0, 4));
        due(9, x.pass(0, 1));
        due(5, x.personIs(0, 4));
    }

    private static void roomOfAmosAndGuest() {
        about("Terms 1: AMOS: as THINKER, and 5.");
        room(50, EVER, 35, 35);
        room(59, EVER, 62, 62);

        about("Terms 1: GUEST: 0, if the rest of HOUR by 24 is below 12; else as MAN.");
        int[] hours = {0, 11, 12, 23, 24, 35, 36, 9983, 9984, 9995, 9996, 9999};
        room(60, hours, 0, 0, 10, 10, 0, 0, 10, 10, 0, 0, 10, 10);
        room(69, hours, 0, 0, 19, 19, 0, 0, 19, 19, 0, 0, 19, 19);
    }

    /** The LOADS of one of a kind with each of some GATES alone, by how HEAVY they are. */
    private static void load(int kind, int[] heavy, int... loads) {
        for (int i = 0; i < heavy.length; i++) {
            GateMinds x = people(10 * kind);
            x.gate(0, 1, heavy[i]);
            x.hold(0, 0);
            due(loads[i], x.personIs(0, 3));
        }
    }

    private static void costs() {
        int[] heavy = {0, 1, 2, 8, 9};
        about("Terms 1: MAN, BOY: as it is HEAVY.");
        load(0, heavy, 0, 1, 2, 8, 9);
        load(3, heavy, 0, 1, 2, 8, 9);
        about("Terms 1: LOVER: as MAN, and 1.");
        load(1, heavy, 1, 2, 3, 9, 10);
        about("Terms 1: THINKER: twice MAN's.");
        load(2, heavy, 0, 2, 4, 16, 18);
        about("Terms 1: GROOM: as LOVER, less half of how HEAVY it is (cut).");
        load(4, heavy, 1, 2, 2, 5, 6);
    }

    private static void costsByWhoHolds() {
        about("Terms 1: AMOS: 0, if it is OPEN; else as THINKER.");
        load(5, new int[] {0, 1, 9}, 0, 2, 18);
        // nine of HEAVY 9 that are OPEN, or one or two of them not: 18 and 36 are held against his 35
        GateMinds x = people(50, 0);
        for (int g = 0; g < 9; g++) x.gate(0, 1, 9);
        due(1, x.fewest());
        x.hold(8, 1);
        due(1, x.fewest());
        x.hold(0, 1);
        due(2, x.fewest());
        x.hold(1, 1);
        x.hold(2, 1);
        due(NONE, x.fewest());
        // 0 and no more: nine times what one costs would be 81
        x = people(50);
        for (int g = 0; g < 9; g++) x.gate(0, 1, 9);
        text(x, 0, "w*9");
        due(1, x.fewest());

        about("Terms 1: GUEST: as MAN, and the rest of the GATE's number by 3.");
        x = people(60);
        for (int g = 0; g < 9; g++) {
            x.gate(0, 1, g % 2 * 9);
            x.hold(g, 0);
            due(g % 2 * 9 + g % 3, x.personIs(0, 3));
            x.hold(g, -1);
        }
    }

    private static void loads() {
        about("Terms 1: LOAD: what all that one HOLDS WEIGH on one, together.");
        GateMinds x = people(20, 0);
        due(0, x.personIs(0, 3), x.personIs(1, 3));
        for (int g = 0; g < 9; g++) {
            x.gate(0, 1, 9);
            x.hold(g, 0);
            due(18 * (g + 1), x.personIs(0, 3));
        }
        due(0, x.personIs(1, 3));
        x.pass(0, 1);
        due(81, x.personIs(1, 3));
        due(0, x.personIs(0, 3));
    }

    private static void byNumbers() {
        about("Terms 1: Then STOCK by numbers");
        // GRASS 2, 3, 2: the first one goes over to FIELD 1 and leaves 2 there, which draws the second one no more
        GateMinds x = new GateMinds();
        x.stock(0);
        x.stock(2);
        x.gate(0, 1, 0);
        x.gate(1, 2, 0);
        x.grass(0, 2);
        x.grass(1, 3);
        x.grass(2, 2);
        due(3, x.hours(1));
        due(1, x.stockAt(0), x.count(4));
        due(2, x.stockAt(1));
        due(2, x.grass(0, 0), x.grass(1, 0));
        due(1, x.grass(2, 0));
        // three at one FIELD: the first one stays, which leaves less than beyond the GATE; so the second one goes, and the third one stays
        x = new GateMinds();
        for (int b = 0; b < 3; b++) x.stock(0);
        x.gate(0, 1, 0);
        x.hours(1);
        due(0, x.stockAt(0), x.stockAt(2));
        due(1, x.stockAt(1), x.count(4));
        due(18, x.grass(0, 0));
        due(19, x.grass(1, 0));
    }

    private static void lettingGo() {
        about("Terms 1: one whose LOAD is above his ROOM lets go");
        GateMinds x = people(0, 1);
        x.gate(0, 1, 9);
        x.gate(0, 1, 1);
        x.gate(0, 1, 1);
        x.hold(0, 0);
        x.hold(1, 0);
        due(10, x.personIs(0, 3), x.personIs(0, 4));
        due(4, x.hours(60));
        x.hold(2, 0);
        due(11, x.personIs(0, 3));
        due(1, x.hours(1));
        // the same 11 are not above 11
        x.hold(0, 0);
        x.pass(0, 1);
        due(11, x.personIs(1, 4));
        due(0, x.hours(60));
        // one who HOLDS nothing has nothing above his ROOM, be it 0
        x = people(60);
        x.gate(0, 1, 0);
        due(1, x.hours(3));
        due(-1, x.hold(0, 0));
        due(0, x.hours(9));

        about("Terms 1: of the GATE that WEIGHS most on him, of several the least (it is OPEN; no more than one)");
        x = people(0);
        for (int g = 0; g < 9; g++) {
            x.gate(0, 1, g == 0 ? 8 : 9);
            x.hold(g, 0);
        }
        // 80 and then 9 less each HOUR, by numbers, the lighter one last; it stays: 8
        for (int n = 1; n <= 7; n++) due((1 << n + 1) - 2, x.hours(1));
        due(510, x.hours(1), x.hours(60));
        due(8, x.personIs(0, 3));
    }

    private static void grazing() {
        about("Terms 1: a beast goes to the FIELD that DRAWS most, of its own and those beyond a GATE at it that is OPEN (of several its own, then by the least GATE)");
        GateMinds x = people(0);
        x.stock(3);
        x.hours(1);
        due(3, x.stockAt(0));
        x.gate(3, 5, 0);
        x.gate(2, 3, 0);
        x.gate(3, 0, 0);
        x.gate(0, 6, 0);
        x.grass(6, 99);
        // its own 20, and 20 beyond each of three: it stays; 99 are two GATES away
        x.grass(3, 20);
        x.hours(1);
        due(3, x.stockAt(0));
        // 19 here, 20 beyond each: by the least GATE, be its FIELD greater
        x.hours(1);
        due(5, x.stockAt(0));
        // the least one is HELD now
        x = people(0);
        x.stock(3);
        x.gate(3, 5, 0);
        x.gate(2, 3, 0);
        x.gate(3, 0, 0);
        x.hold(0, 0);
        x.grass(3, 19);
        x.hours(1);
        due(2, x.stockAt(0));
        // one that is let go in this HOUR is OPEN for STOCK in it
        x = people(0);
        x.stock(0);
        x.gate(0, 1, 9);
        x.gate(0, 2, 2);
        x.hold(0, 0);
        x.hold(1, 0);
        x.grass(1, 30);
        x.grass(2, 40);
        due(1, x.hours(1));
        due(1, x.stockAt(0));
        // a GATE that isn't at its FIELD leads it nowhere, neither to one of its FIELDS nor to 0
        for (int f = 0; f < 7; f++) {
            GateMinds y = new GateMinds();
            y.stock(f);
            y.gate((f + 1) % 7, (f + 2) % 7, 0);
            y.gate((f + 5) % 7, (f + 4) % 7, 0);
            for (int other = 0; other < 7; other++) if (other != f) y.grass(other, 99);
            y.hours(1);
            due(f, y.stockAt(0));
        }
        // nothing grows anywhere: it stays
        x.grass(0, 0);
        x.grass(1, 0);
        x.hours(1);
        due(1, x.stockAt(0));
    }

    private static void strays() {
        about("Terms 1: STRAYS is 1 more, if that is another one (held)");
        GateMinds x = new GateMinds();
        x.stock(0);
        x.hours(60);
        due(0, x.count(4));
        x.gate(0, 1, 0);
        x.hours(1);
        due(1, x.count(4), x.stockAt(0));
        x.hours(1);
        due(1, x.count(4), x.stockAt(0));
        // six at once from 9996: held
        x = wanderers();
        for (int n = 0; n < 27; n++) x.hours(60);
        x.hours(46);
        due(9996, x.count(4));
        x.loose(1);
        due(9999, x.count(4));
    }

    private static void grassAndHour() {
        about("Terms 1: GRASS there is 1 less (0 at least)");
        GateMinds x = new GateMinds();
        x.stock(0);
        x.stock(0);
        x.grass(0, 3);
        x.hours(1);
        due(1, x.grass(0, 1));
        x.hours(1);
        due(0, x.grass(0, 0));
        x.hours(1);
        due(0, x.grass(0, 1));
        x.hours(60);
        due(0, x.grass(0, 99));
        due(20, x.grass(1, 20));
        x.hours(49);
        due(1, x.grass(0, 0));

        about("Terms 1: HOUR is 1 more.");
        x = new GateMinds();
        x.hours(1);
        due(1, x.count(3));
        x.hours(60);
        due(61, x.count(3));
        x.loose(1);
        due(62, x.count(3));
        x.loose(30);
        due(92, x.count(3));
    }

    private static void loose() {
        about("Terms 1: BY DRAWS AN HOUR: if there are PEOPLE and GATES, three draws");
        GateMinds x = new GateMinds();
        due(0, x.loose(30));
        due(1, x.count(9));
        x.gate(0, 1, 0);
        due(1, x.loose(30), x.count(9));
        x = people(0, 0, 0, 0, 0, 0);
        due(0, x.loose(30));
        due(1, x.count(9));
        due(30, x.count(3));
        x.gate(0, 1, 0);
        x.loose(1);
        due(drawn(drawn(drawn(1))), x.count(9));
        x = people(0);
        for (int g = 0; g < 9; g++) x.gate(0, 1, 0);
        x.loose(30);
        int z = 1;
        for (int n = 0; n < 90; n++) z = drawn(z);
        due(z, x.count(9));

        about("Terms 1: the GATE that is the first one's rest by how many there are is HELD by the one that is the second one's rest by how many there are, or by nobody, if 4 divides the third one; then AN HOUR.");
        int[] rests = new int[4];
        for (int seed = 0; seed < 40; seed++) {
            x = people(9, 9, 9, 9, 9, 9);
            for (int g = 0; g < 9; g++) {
                x.gate(0, 1, 0);
                x.hold(g, 5);
            }
            x.seed(seed);
            int first = drawn(seed);
            int second = drawn(first);
            int third = drawn(second);
            int gate = given(first) % 9;
            int rest = given(third) % 4;
            rests[rest]++;
            due(rest == 0 ? 1 << gate : 0, x.loose(1));
            due(rest == 0 ? -1 : given(second) % 6, x.gateIs(gate, 3));
            due(5, x.gateIs((gate + 1) % 9, 3), x.gateIs((gate + 8) % 9, 3));
        }
        for (int rest : rests) due(1, rest > 0 ? 1 : 0);
        // who is drawn to hold what is above his ROOM lets go of it in the same HOUR
        for (int seed = 0; seed < 40; seed++) {
            x = people(60);
            x.gate(0, 1, 1);
            x.seed(seed);
            due(1, x.loose(1));
        }
    }

    /** z as a draw makes it, worked out without an int that wraps. */
    private static int drawn(int z) {
        return (int) Math.floorMod(z * 1103515245L + 12345L, 4294967296L);
    }

    /** What a draw gives: z without its sign, and its lowest 8 bits cut off. */
    private static int given(int z) {
        return (int) (Math.floorMod((long) z, 4294967296L) / 256);
    }

    private static void draws() {
        about("Terms 1: DRAWS: z is told (1 at first); each makes it z * 1103515245 + 12345 (an int), and gives z >>> 8.");
        GateMinds x = people(0);
        x.gate(0, 1, 0);
        due(1, x.count(9), x.seed(1));
        // 1103527590, then 2524885223 and 662824084 in 32 bits
        due(1103527590, drawn(1));
        due((int) 2524885223L, drawn(drawn(1)));
        x.loose(1);
        due(662824084, x.count(9), drawn(drawn(drawn(1))));
        for (int seed : new int[] {0, -1, MIN, MAX, -1000000001, 1 << 30}) {
            x.seed(seed);
            x.loose(1);
            due(drawn(drawn(drawn(seed))), x.count(9));
        }
        // each of the three below 0: what is given isn't
        int below = 0;
        for (int seed = -60; seed < 60; seed++) {
            GateMinds y = people(0, 0, 0, 0, 0);
            for (int g = 0; g < 7; g++) y.gate(0, 1, 0);
            y.seed(seed);
            int first = drawn(seed);
            int second = drawn(first);
            int third = drawn(second);
            if (first < 0 && second < 0 && third < 0) below++;
            y.loose(1);
            due(given(third) % 4 == 0 ? -1 : given(second) % 5, y.gateIs(given(first) % 7, 3));
        }
        due(1, below > 3 ? 1 : 0);
    }

    /** 1+1+ and so on, n bytes; behind an odd number of them it is a TEXT. */
    private static String ones(int n) {
        StringBuilder t = new StringBuilder();
        for (int i = 0; i < n; i++) t.append(i % 2 == 0 ? '1' : '+');
        return t.toString();
    }

    private static void tape() {
        about("Terms 2: TEXTS are read from THE TAPE (bytes, at most 60)");
        GateMinds x = new GateMinds();
        due(59, feed(x, ones(59)));
        due(FULL, x.feed('+' | '1' << 8, 2), x.feed(0L, 8));
        due(59, x.count(6));
        due(60, x.feed('1', 1));
        due(FULL, x.feed('1', 1), x.feed(0L, 8));
        due(60, x.count(6));
        due(1, x.text(1));
        due(40, x.law(1, 0, 0, 0));
        due(0, x.count(6));
        due(8, feed(x, ones(8)));
        due(FULL, feedFull(x));
        due(56, x.count(6));
        due(-10 - 8, x.text(1));
        due(40, x.law(1, 0, 0, 0));
    }

    /** Six words of 8 more, and what the seventh is answered. */
    private static int feedFull(GateMinds x) {
        for (int n = 0; n < 6; n++) x.feed(0L, 8);
        return x.feed(0L, 8);
    }

    /** A number, and so often a sign and another number. */
    private static String chain(String first, int n, String more) {
        StringBuilder t = new StringBuilder(first);
        for (int i = 0; i < n; i++) t.append(more);
        return t.toString();
    }

    private static void chains() {
        about("Terms 2: T: A { | A }. A: B { & B }.");
        due(1, value(chain("0", 28, "|0") + "|1"), value(chain("1", 29, "|0")), value(chain("1", 29, "&1")), value("1"));
        due(0, value(chain("0", 29, "|0")), value(chain("1", 28, "&1") + "&0"), value(chain("0", 29, "&1")), value("0"));
        about("Terms 2: S: P { + P, - P }.");
        due(30, value(chain("1", 29, "+1")));
        due(70, value(chain("99", 29, "-1")));
        due(99, value(chain("99", 14, "-9+9")));
        about("Terms 2: P: Q { * Q, / Q, % Q }.");
        due(7, value(chain("7", 29, "*1")), value(chain("7", 29, "/1")), value(chain("7", 29, "%9")), value(chain("7", 14, "*9/9")));
        due(0, value(chain("7", 29, "*0")), value(chain("7", 29, "/0")), value(chain("7", 29, "%0")));
    }

    private static void grammar() {
        about("Terms 2: Q: a NUMBER of 1 to 4 digits");
        due(1, value("1"), value("01"), value("001"), value("0001"), value("9999>9998"), value("0000=0"));
        due(-14, value("00001"), value("12345"), value("0000 "), value("9999w"));
        due(-12, value("1+"), value("g*"), value("1|"));
        due(-10, value(""), value("+"), value("/"), value("="));

        about("Terms 2: No blanks.");
        due(-10, value(" 1"), value("\t1"), value("\n"));
        due(-11, value("1 "), value("1 +1"), value("! 1"), value("( 1)"), value("1\r"));
        due(-12, value("1+ 1"), value("(1 )"), value("12 3"));

        about("Terms 2: B: S, or S < S, S = S, S > S.");
        due(1, value("1<2"), value("(1<2)=1"), value("1=(2>1)"), value("1<2&2<3"), value("1<2|3<2"));
        due(-13, value("1<2<3"), value("1=1=1"), value("3>2>1"), value("1<2=1"));
        due(-12, value("1<<2"), value("1<=2"), value("1=="), value("1><"));

        about("Terms 2: P: Q { * Q, / Q, % Q }.");
        due(0, value("1&2*0"), value("2*0|0"), value("0*1+0"));
        due(2, value("1+1*1"), value("1*1+1"), value("2*3/3"), value("8/2/2"), value("8%6/1"), value("20%11%7"));
    }

    private static void openSigns() {
        about("Terms 2: At most 5 of ! and ( are open at once.");
        due(1, value("!!!!!0"), value("(((((1)))))"), value("!(!(!0))"), value("!!!!(0)=0"), value("(((!(0))))"));
        due(-15, value("!!!!!!0"), value("((((((1))))))"), value("!(!(!(0)))"), value("!!!!!(0)"), value("(((((!0)))))"));
        // what is closed is open no more: behind its Q a ! , behind its ) a (
        due(1, value("!!!!!1+!!!!!0"), value("(((((0)))))|(((((1)))))"), value("!!!!!0&(((((1)))))"), value("(((((0)+(1)))))"));
        due(1, value("(!0&(!(0|(0|1))|1))"), value("(!!!!0+!!!!0)=0"), value("!(((!1)|!1)|!(1))"));
        due(1, value("!!!!!0+0*g"), value("!1234<!0"), value("((((!0+!0))))=2"), value("((((!g+!0))))=1"));
        due(-10 - 12, value("!!!!!1+!!!!!!0"));
        due(-10 - 17, value("(((((0)))))|(((((!1)))))"));
        due(-10 - 9, value("(((((0)+((1))))))"));
        due(-10 - 13, value("(((((0)))+((((1))))))"));
        due(-10 - 5, value("(!!!!!0)"), value("!(((((0)))))"), value("!!!!!!"), value("(((((("));
    }

    private static void arithmetic() {
        about("Terms 2: Ints that wrap");
        // 46341 times itself is 2147488281: -2147479015
        due(1, value("(9999*4+6345)*(9999*4+6345)<0"), value("0-(9999*4+6345)*(9999*4+6345)=2147*9999*100+9999*69+3784"));
        String most = "(2048*2048*512-1)";
        due(1, value(most + ">0"), value(most + "+1<0"), value("0-" + most + "-2>0"), value(most + "+1=0-" + most + "-1"));
        due(1, value("2048*2048*512=0-2048*2048*512"), value("2048*2048*1024=0"), value(most + "*2=0-2"));

        about("Terms 2: / cut, % the rest that it leaves, both by 0 are 0");
        due(3, value("7/2"), value("0-(0-7)/2"), value("0-7/(0-2)"), value("(0-7)/(0-2)"), value("0-(0-7)%4"), value("7%(0-4)"));
        due(0, value("7/0"), value("7%0"), value("0/0"), value("0%0"), value("(0-7)/0"), value("(0-7)%0"), value("g/(f-3)%0"));
        due(0, value("0-2048*2048*512/0"), value("2048*2048*512%(0-1)"), value("2048*2048*512%0"));
        due(1, value("2048*2048*512/(0-1)=2048*2048*512"), value("7/0=0"), value("0-7%0=0"));
        GateMinds x = new GateMinds();
        text(x, 1, "g/f+d");
        due(0, x.law(1, MIN, -1, 0), x.law(1, 5, 0, 0), x.law(1, MIN, 0, 0));
        due(99, x.law(1, MIN, -1, -1));
        text(x, 1, "g%f+d");
        due(5, x.law(1, MIN, -1, 5), x.law(1, MAX, 0, 5), x.law(1, 0, 0, 5));
    }

    private static void truth() {
        about("Terms 2: | & < = > ! are 1 or 0, what is not 0 being true; all is worked out.");
        due(1, value("7|0"), value("0|7"), value("7|9"), value("(0-1)|0"), value("0|(0-1)"), value("7&9"), value("(0-1)&2"), value("1024&1"));
        due(0, value("0|0"), value("0&7"), value("7&0"), value("0&0"), value("(0-1)&0"));
        due(1, value("!0"), value("!!7"), value("!!(0-1)"), value("!(7-7)"));
        due(0, value("!7"), value("!(0-1)"), value("!!0"), value("!1024"));
        due(1, value("7<8"), value("(0-8)<(0-7)"), value("8>7"), value("7=7"), value("0-1<0"), value("0>0-1"));
        due(0, value("7<7"), value("8<7"), value("7>7"), value("7>8"), value("7=8"), value("0-7=7"));
        due(1, value("1|7/0"), value("7/0|1"), value("!(0&7%0)"));
        due(3, value("(7|8)+(7&8)+(7>6)"), value("!0+!0+!0"), value("3*(2<3)"));
        for (String yes : new String[] {"7|0", "0|7", "7|9", "7&9", "7<8", "7=7", "8>7"}) due(6, value("5+(" + yes + ")"), value("7-(" + yes + ")"));
        for (String no : new String[] {"0|0", "7&0", "0&7", "0&0", "7<7", "8<7", "7=8", "8=7", "7>7", "7>8"}) {
            due(5, value("5+(" + no + ")"), value("5-(" + no + ")"));
        }
        due(5, value("5+!7"), value("5-!7"), value("4+!0"), value("6-!0"));
    }

    private static void fault() {
        about("Terms 2: FAULT: the place of the first byte with which no TEXT goes on; how many there are, if it ends too early.");
        due(-10, value(""), value("w"), value(")"), value("|"), value("\u0000"), value("\u00ff"), value("\u00b1"), value("G"));
        due(-11, value("1)"), value("g7"), value("7g"), value("gf"), value("1("), value("1!"), value("("), value("!"), value("(|"), value("1\u00ab"));
        due(-12, value("(1"), value("1*"), value("1+)"), value("!("), value("1+*"), value("1+)))))"), value("(1\u00a9"));
        due(-13, value("(g*"), value("1+("), value("(1))"), value("(1+"), value("1+(+1"));
        due(-10 - 60, value(ones(60)), value(ones(58) + "!!"), value(ones(56) + "(((("));
        due(-10 - 59, value(ones(59) + ")"), value(ones(59) + "("), value(ones(58) + "!)"), value(ones(56) + "((()"));
        due(-10 - 58, value(ones(58) + "+1"), value(ones(58)));
        GateMinds x = new GateMinds();
        due(-10, text(x, 0, "f"), text(x, 0, "d"), text(x, 1, "w"), text(x, 1, "h"));
        due(1, text(x, 0, "w"), text(x, 0, "h"), text(x, 0, "g"), text(x, 1, "g"), text(x, 1, "f"), text(x, 1, "d"));
    }

    /** Of all 256 bytes just these go on behind what stands ahead: others are a FAULT there, these at another place or none. */
    private static void goesOn(int use, String ahead, String bytes) {
        for (int b = 0; b < 256; b++) {
            boolean there = text(new GateMinds(), use, ahead + (char) b) == -10 - ahead.length();
            due(bytes.indexOf((char) b) >= 0 ? 0 : 1, there ? 1 : 0);
        }
    }

    private static void faultOfEachByte() {
        // any of 256 bytes, behind all that can stand ahead of one
        about("Terms 2: FAULT: the place of the first byte with which no TEXT goes on");
        String digits = "0123456789";
        String signs = "|&<=>+-*/%";
        for (int use = 0; use < 2; use++) {
            String names = use == 0 ? "whg" : "gfd";
            for (String ahead : new String[] {"", "!", "(", "1|", "1&", "1<", "1=", "1>", "1+", "1-", "1*", "1/", "1%", "(1+", "((1)&"}) {
                goesOn(use, ahead, digits + names + "!(");
            }
            for (String ahead : new String[] {"!!!!!", "(((((", "!(!(!", "((1)+!((("}) goesOn(use, ahead, digits + names);
            for (String ahead : new String[] {"1", "123", "g+1", "!1", "1<2|3"}) goesOn(use, ahead, digits + signs);
            for (String ahead : new String[] {"1234", "g", "!g", "(1)", "1|2&3<4|g"}) goesOn(use, ahead, signs);
            for (String ahead : new String[] {"1<1234", "g=g", "g>(1)", "1<1+g"}) goesOn(use, ahead, "|&+-*/%");
            for (String ahead : new String[] {"(g", "(1|(2)", "((1)"}) goesOn(use, ahead, signs + ")");
            goesOn(use, "(1<2", digits + "|&+-*/%)");
            goesOn(use, "(1<g", "|&+-*/%)");
            goesOn(use, "1<(2", digits + signs + ")");
        }
    }

    /** LOADS of one with one GATE more each time, of these HEAVY, by a TEXT. */
    private static void weight(String t, int[] heavy, int... loads) {
        for (int i = 0; i < heavy.length; i++) {
            GateMinds x = people(0);
            due(1, text(x, 0, t));
            x.gate(0, 1, heavy[i]);
            x.hold(0, 0);
            due(loads[i], x.personIs(0, 3));
        }
    }

    private static void weighing() {
        about("Terms 2: 0 WEIGHS: NAMES w what it COSTS, h the rest of HOUR by 24, g the GATE's number; held within 0 .. 19");
        weight("w*9", new int[] {0, 1, 2, 3, 9}, 0, 9, 18, 19, 19);
        weight("w-1", new int[] {0, 1, 2}, 0, 0, 1);
        weight("w+18", new int[] {0, 1, 2}, 18, 19, 19);
        GateMinds x = people(0);
        for (int g = 0; g < 9; g++) x.gate(0, 1, 9);
        text(x, 0, "g");
        for (int g = 0; g < 9; g++) {
            x.hold(g, 0);
            due(g * (g + 1) / 2, x.personIs(0, 3));
        }
        text(x, 0, "h");
        for (int g = 1; g < 9; g++) x.hold(g, -1);
        int[] hours = {0, 1, 19, 20, 23, 24, 25, 9983, 9984, 9999};
        int[] loads = {0, 1, 19, 19, 19, 0, 1, 19, 0, 15};
        for (int i = 0; i < hours.length; i++) {
            x.hour(hours[i]);
            due(loads[i], x.personIs(0, 3));
        }
        text(x, 0, "w");
        due(0, x.law(0, 0, 9, 9), x.law(0, -1, 9, 9), x.law(0, MIN, 9, 9));
        due(19, x.law(0, 19, 0, 0), x.law(0, 20, 0, 0), x.law(0, MAX, 0, 0));
        due(18, x.law(0, 18, 0, 0));

        about("Terms 2: without a TEXT w (held likewise)");
        x.untell(0);
        due(0, x.law(0, 0, 9, 9), x.law(0, -1, 9, 9), x.law(0, MIN, 9, 9));
        due(19, x.law(0, 19, 0, 0), x.law(0, 20, 0, 0), x.law(0, MAX, 0, 0));
        due(18, x.law(0, 18, 0, 0));
        due(9, x.personIs(0, 3));
    }

    /** Where a beast of FIELD 0 goes by a TEXT, one GATE from FIELD 1. */
    private static int goes(String t, int here, int there) {
        GateMinds x = new GateMinds();
        if (!t.isEmpty()) text(x, 1, t);
        x.gate(0, 1, 0);
        x.stock(0);
        x.grass(0, here);
        x.grass(1, there);
        x.hours(1);
        return x.stockAt(0);
    }

    private static void drawing() {
        about("Terms 2: 1 DRAWS: NAMES g GRASS, f the FIELD, d the rest of HOUR by 24; held within 0 .. 99");
        due(1, goes("g+90", 8, 9), goes("g+90", 8, 99), goes("g-50", 0, 51), goes("g-50", 50, 51), goes("f", 99, 0));
        due(0, goes("g+90", 9, 10), goes("g+90", 9, 99), goes("g-50", 0, 50), goes("g-50", 49, 50), goes("0-f", 0, 99));
        GateMinds x = new GateMinds();
        text(x, 1, "g");
        due(0, x.law(1, 0, 9, 9), x.law(1, -1, 9, 9), x.law(1, MIN, 9, 9));
        due(99, x.law(1, 99, 0, 0), x.law(1, 100, 0, 0), x.law(1, MAX, 0, 0));
        due(98, x.law(1, 98, 0, 0));
        for (int f = 0; f < 6; f++) x.gate(f, f + 1, 0);
        x.stock(0);
        // from 22 on: nowhere, to 1 at 23, to 2 at 0 of the next day
        text(x, 1, "d=23&f=1|d=0&f=2|d=15&f=3");
        x.hour(22);
        x.hours(1);
        due(0, x.stockAt(0));
        x.hours(1);
        due(1, x.stockAt(0));
        x.hours(1);
        due(2, x.stockAt(0), x.count(4));
        x.hour(9998);
        due(2, x.then(1, 1));
        due(3, x.then(2, 1));
        text(x, 1, "f");
        x.hour(0);
        x.hours(4);
        due(6, x.stockAt(0));

        about("Terms 2: without a TEXT g (held likewise)");
        due(1, goes("", 0, 1), goes("", 98, 99));
        due(0, goes("", 0, 0), goes("", 99, 99), goes("", 1, 0));
        x.untell(1);
        due(0, x.law(1, 0, 9, 9), x.law(1, -1, 9, 9), x.law(1, MIN, 9, 9));
        due(99, x.law(1, 99, 0, 0), x.law(1, 100, 0, 0), x.law(1, MAX, 0, 0));
        due(98, x.law(1, 98, 0, 0));
    }

    private static void thought() {
        about("Terms 3: (All this is only thought; HOUR beyond 9999, too.)");
        // a boy's ROOM from 9999 on: 7, 6, 5, 10; he holds 5 and 1
        GateMinds x = people(30);
        x.gate(0, 1, 5);
        x.gate(0, 1, 1);
        x.hold(0, 0);
        x.hold(1, 0);
        x.stock(0);
        x.sheet(0, 8, 1);
        x.put(0, 0, -1);
        x.hour(9999);
        for (int n = 0; n < 2; n++) {
            due(0, x.then(0, 0), x.then(2, 0), x.then(2, 1));
            due(1, x.then(3, 0), x.then(60, 0), x.then(3, 1), x.fewest());
            due(3, x.first(0), x.fits(0));
            due(NONE, x.first(1));
        }
        due(9999, x.count(3));
        due(0, x.count(5), x.count(4), x.stockAt(0), x.gateIs(0, 3), x.gateIs(1, 3));
        due(6, x.personIs(0, 3));
        due(7, x.personIs(0, 4));
        due(20, x.grass(0, 20), x.grass(1, 20));
        due(STATE, x.hours(1));

        about("Terms 3: THEN: GATES that are OPEN, STRAYS, n HOURS on.");
        x = new GateMinds();
        due(0, x.then(0, 0), x.then(0, 1), x.then(60, 0), x.then(60, 1));
        x = wanderers();
        due(1, x.then(0, 0), x.then(60, 0));
        for (int n = 0; n <= 60; n++) due(6 * n, x.then(n, 1));
        x.hours(7);
        due(42, x.then(0, 1));
        due(48, x.then(1, 1));
    }

    private static void firsts() {
        about("Terms 3: FIRST of a GATE: behind how many HOURS (0 .. 60) it is first OPEN.");
        GateMinds x = dailyGates();
        due(12, x.first(0));
        due(36, x.first(1));
        due(60, x.first(2));
        x.hour(11);
        due(1, x.first(0));
        due(25, x.first(1));
        due(49, x.first(2));
        x.hour(23);
        due(13, x.first(0));
        due(37, x.first(1));
        due(NONE, x.first(2));
        x.hold(1, -1);
        due(0, x.first(1));
        due(37, x.first(2));
    }

    private static void fewest() {
        about("Terms 3: FEWEST: the fewest PEOPLE among whom all GATES could be parted so that for none what they WEIGH on him (as things are now) is together above his ROOM (now).");
        GateMinds x = new GateMinds();
        due(0, x.fewest());
        x.gate(0, 1, 0);
        due(NONE, x.fewest());
        x = people(1);
        due(0, x.fewest());
        x.gate(0, 1, 9);
        x.gate(0, 1, 2);
        due(1, x.fewest());
        x.become(0, 0);
        due(NONE, x.fewest());
        // a guest's ROOM and a boy's are those of now: 0 at 11, 13 at 12; 9 at 13, 5 at 17, 10 at 18
        x = people(63);
        x.gate(0, 1, 9);
        x.gate(0, 1, 1);
        x.hour(11);
        due(NONE, x.fewest());
        x.hour(12);
        due(1, x.fewest());
        x.become(0, 30);
        due(1, x.fewest());
        x.hour(13);
        due(NONE, x.fewest());
        x.person(30);
        due(2, x.fewest());
        x.hour(17);
        due(NONE, x.fewest());
        x.hour(18);
        due(1, x.fewest());
        // what WEIGHS 0 needs one, too, be his ROOM 0
        x = people(60);
        x.gate(0, 1, 0);
        due(1, x.fewest());
        // thrice 9, and thrice 8 and 2, fill six of 10; 9, 8 and 2 fill one of 19; 8 and 3 are too much for 10
        x = people(0, 0, 0, 0, 0, 0);
        for (int g = 0; g < 6; g++) x.gate(0, 1, g < 3 ? 9 : 8);
        for (int g = 0; g < 3; g++) x.gate(0, 1, 2);
        due(6, x.fewest());
        x.become(0, 9);
        due(5, x.fewest());
        x.become(0, 0);
        text(x, 0, "w+(g=8)");
        due(NONE, x.fewest());
    }

    private static void ways() {
        about("Terms 3: A WAY: the fewest GATES, OPEN or not, one behind the other, from a FIELD to another one.");
        GateMinds x = people(0);
        for (int f = 0; f < 7; f++) {
            due(0, x.way(f, f));
            due(NONE, x.way(f, (f + 1) % 7));
        }
        for (int f = 0; f < 6; f++) {
            x.gate(f + 1, f, 0);
            x.hold(f, 0);
            due(f + 1, x.way(0, f + 1), x.way(f + 1, 0));
            due(f < 5 ? NONE : 6, x.way(0, 6));
        }
        x.gate(0, 6, 0);
        due(1, x.way(0, 6));
        due(3, x.way(0, 3), x.way(4, 0));
        due(0, x.way(6, 6));
    }

    private static void cuts() {
        about("Terms 3: CUT: the fewest GATES without which there is no WAY; of several sets the least (bits).");
        GateMinds x = people(0);
        due(0, x.cut(0, 6, 0), x.cut(0, 6, 1));
        for (int f = 0; f < 6; f++) {
            due(0, x.cut(0, 6, 0), x.cut(0, 6, 1));
            x.gate(f, f + 1, 0);
        }
        due(1, x.cut(0, 6, 0), x.cut(0, 6, 1), x.cut(6, 0, 1));
        due(2, x.cut(1, 2, 1));
        due(32, x.cut(5, 6, 1), x.cut(6, 5, 1));
        // the other side round: one of each side, the least ones
        x.gate(6, 0, 0);
        due(2, x.cut(0, 6, 0), x.cut(3, 4, 0));
        due(1 + 64, x.cut(0, 6, 1));
        due(8 + 1, x.cut(3, 4, 1));
        due(1 + 2, x.cut(1, 2, 1));
        // HELD or OPEN, it is all one
        for (int g = 0; g < 7; g++) {
            x.hold(g, 0);
            due(1 + 64, x.cut(0, 6, 1));
            due(2, x.cut(0, 6, 0), x.cut(g, (g + 1) % 7, 0));
        }
        // fewer with greater numbers go ahead of more with lesser ones
        x = new GateMinds();
        for (int g = 0; g < 7; g++) x.gate(0, 1, 0);
        x.gate(1, 2, 0);
        x.gate(2, 1, 0);
        due(2, x.cut(0, 2, 0));
        due(128 + 256, x.cut(0, 2, 1), x.cut(2, 0, 1));
        due(7, x.cut(0, 1, 0));
        due(127, x.cut(1, 0, 1));
        x = new GateMinds();
        for (int g = 0; g < 9; g++) x.gate(0, 6, 0);
        due(9, x.cut(0, 6, 0));
        due(511, x.cut(6, 0, 1));
        due(0, x.cut(0, 5, 0), x.cut(0, 5, 1));
    }

    private static void roamsAndOdds() {
        about("Terms 3: ROAMS: FIELDS to which one comes from one through GATES that are OPEN, itself, too.");
        GateMinds x = people(0);
        for (int f = 0; f < 7; f++) due(1 << f, x.roams(f));
        for (int f = 6; f > 0; f--) x.gate(f, f - 1, 0);
        for (int f = 0; f < 7; f++) due(127, x.roams(f));
        x.hold(0, 0);
        due(63, x.roams(0), x.roams(5));
        due(64, x.roams(6));
        for (int g = 0; g < 6; g++) x.hold(g, 0);
        for (int f = 0; f < 7; f++) due(1 << f, x.roams(f));

        about("Terms 3: ODDS of a FIELD: that a GATE, each as likely, were it OPEN, would make more FIELDS such that one ROAMS: a fraction in lowest terms (0 is 0 by 1).");
        x = people(0);
        x.gate(0, 1, 0);
        due(0, x.odds(0, 0), x.odds(5, 0));
        due(1, x.odds(0, 1), x.odds(5, 1));
        x.hold(0, 0);
        due(1, x.odds(0, 0), x.odds(0, 1), x.odds(1, 0), x.odds(1, 1), x.odds(5, 1));
        due(0, x.odds(5, 0));
        // at 0 nine HELD ones from 0: 9 of 9; at 1 all that lead to it
        x = people(0);
        for (int g = 0; g < 9; g++) {
            x.gate(g < 3 ? 1 : 2, 0, 0);
            x.hold(g, 0);
        }
        due(1, x.odds(0, 0), x.odds(0, 1), x.odds(1, 0), x.odds(3, 1));
        due(3, x.odds(1, 1), x.odds(2, 1));
        due(2, x.odds(2, 0));
        due(0, x.odds(3, 0));
        x.hold(0, -1);
        // now 0 and 1 are one: only the six that lead to 2 make more
        due(2, x.odds(0, 0), x.odds(1, 0));
        due(3, x.odds(0, 1), x.odds(1, 1));
        // at 2 each of the nine but those between 0 and 1
        due(2, x.odds(2, 0));
        x.hold(8, -1);
        due(0, x.odds(0, 0), x.odds(1, 0), x.odds(2, 0));
        due(1, x.odds(0, 1), x.odds(1, 1), x.odds(2, 1));
        x = people(0);
        for (int g = 0; g < 8; g++) x.gate(0, 1, 0);
        x.gate(0, 2, 0);
        x.hold(8, 0);
        due(1, x.odds(0, 0));
        due(9, x.odds(0, 1));
    }

    private static void fits() {
        about("Terms 3: FITS: a SHEET tells by whom GATES 0, 1, .. are HELD (-1: nobody): behind how many HOURS (0 .. 60) first that is so.");
        GateMinds x = dailyGates();
        x.sheet(0, 8, 3);
        x.sheet(1, 16, 3);
        x.sheet(2, 32, 3);
        for (int s = 0; s < 3; s++) {
            due(0, x.fits(s));
            x.put(s, 0, -1);
            due(12, x.fits(s));
            x.put(s, 1, -1);
            due(36, x.fits(s));
            x.put(s, 2, -1);
            due(60, x.fits(s));
        }
        x.hour(23);
        due(NONE, x.fits(0), x.fits(1), x.fits(2));
        x.hour(24);
        due(60, x.fits(0), x.fits(1), x.fits(2));
        // one that is somebody's no more, one that nobody can be, none at all, one GATE too many
        x.hold(0, -1);
        x.put(0, 0, 0);
        due(NONE, x.fits(0));
        x.put(1, 0, -2);
        due(NONE, x.fits(1));
        x.put(1, 0, 6);
        due(NONE, x.fits(1));
        x.sheet(3, 32, 0);
        due(0, x.fits(3));
        x.sheet(3, 32, 4);
        x.put(3, 0, -1);
        due(NONE, x.fits(3));
        due(3, x.gate(0, 1, 1));
        x.put(3, 3, -1);
        due(0, x.fits(3));
        x = new GateMinds();
        x.sheet(0, 8, 0);
        due(0, x.fits(0));
        x.sheet(0, 8, 1);
        due(NONE, x.fits(0));
    }

    private static void voicesWrap() {
        about("Terms 4: VOICES of one of PEOPLE, with a number x (ints that wrap)");
        int half = 1 << 30;
        // MAN 0 with m 1; MAN 1 with m 0
        GateMinds x = people(1, 0);
        due(MIN, x.voice(1, 0, MAX), x.voice(0, 1, half), x.voice(1, 3, MIN));
        due(MAX, x.voice(0, 2, half));
        due(0, x.voice(1, 1, MAX), x.voice(0, 1, MIN), x.voice(0, 3, 0));
        due(-2, x.voice(0, 1, MAX));
        // LOVER 0 with m 1: nods x - 4, parts x + (1 - 4) * 2
        x.become(0, 11);
        due(MAX - 3, x.voice(0, 0, MIN));
        due(MAX - 5, x.voice(0, 3, MIN));
        // THINKER 0 with m 1
        x.become(0, 21);
        due(MIN, x.voice(0, 1, half));
        due(MAX, x.voice(0, 2, half));
        // BOY 0 with m 1: half of the least, twice that, less 1
        x.become(0, 31);
        due(MAX, x.voice(0, 2, MIN));
        // GROOM 0: (x - 4) * 3
        x.become(0, 41);
        due(MAX - 14, x.voice(0, 0, MAX));
        due(MAX - 11, x.voice(0, 0, MIN));
        // AMOS 0: 0 less twice what comes behind x
        x.become(0, 51);
        due(0, x.voice(0, 1, MAX));
        due(2, x.voice(0, 1, MAX - 1));
        x.become(0, 61);
        due(9, x.voice(0, 0, MIN), x.voice(0, 0, MAX));
        // GROOM 5 with m 0: bits of 5 and of ((x + 5 - 4) * 3 * 2), be it below 0
        x = people(0, 0, 0, 0, 0, 40);
        due(3, x.voice(5, 2, 0));
        due(5, x.voice(5, 2, -1));
        due(-1, x.voice(5, 2, -2));
        due(9, x.voice(5, 2, 1));
        due(-6 * 9 ^ 5, x.voice(5, 2, -10));
        // an answer that looks like an ERROR is none
        due(-1000000001, x.voice(1, 0, -1000000002));
        due(-1000000006, x.voice(1, 0, -1000000007));
        due(-1000000000, x.voice(1, 0, -1000000001));
        for (int k = 1; k <= 6; k++) due(0, x.told(k));
    }

    private static void parted() {
        about("Terms 4: 13 parts: x by (m - k), cut (PARTED if that is 0; that is all that voice() answers then)");
        for (int kind = 0; kind < 7; kind++) {
            GateMinds x = people(0, 0, 0, 0, 0, 0);
            for (int k = 0; k < 6; k++) {
                int nods = kind == 1 ? 1 + k - 4 : kind == 4 ? (1 + k - 4) * 3 : 0;
                for (int m = 0; m < 10; m++) {
                    x.become(k, 10 * kind + m);
                    due(m == k ? PARTED : -100 / (m - k) + nods * 2, x.voice(k, 3, -100));
                    due(m == k ? PARTED : 0 / (m - k) + nods * 2, x.voice(k, 3, 0));
                }
            }
            due(12, x.told(6));
            // of the other voices none parts
            x.become(5, 10 * kind + 5);
            x.voice(5, 0, 0);
            x.voice(5, 1, 0);
            x.voice(5, 2, 0);
            due(12, x.told(6));
        }
    }

    /** THE TRACE is these, and nothing is ahead of them or behind them. */
    private static void traceIs(GateMinds x, int... bodies) {
        due(bodies.length, x.count(8));
        for (int i = 0; i < bodies.length; i++) due(bodies[i], x.body(i));
        due(NONE, x.body(bodies.length), x.body(-1), x.body(29), x.body(30), x.body(MIN), x.body(MAX));
    }

    private static void bodies() {
        about("Terms 4: nods(..) is the BODY of its KIND, or of the next KIND above that has one; super.nods(..) that from the KIND above the BODY's on.");
        // m 9 of number 0, x 7
        int[][] answers = {
            {7, 14, 5, 0},
            {3, 6, -3, -6},
            {7, -14, -23, 0},
            {7, 14, -3, 0},
            {9, 18, 9, -18},
            {7, -16, -25, 0},
            {9, 27, 18, 0}
        };
        GateMinds x = people(9);
        for (int kind = 0; kind < 7; kind++) {
            x.become(0, 10 * kind + 9);
            for (int voice = 0; voice < 4; voice++) due(answers[kind][voice], x.voice(0, voice, 7));
        }
        due(BEYOND, x.voice(0, 4, 7), x.voice(0, -1, 7), x.voice(0, MIN, 7), x.voice(0, MAX, 7));
    }

    private static void trace() {
        about("Terms 4: THE TRACE: the numbers of BODIES of the latest voice(), as they began (what stands left is worked out first), the first 30.");
        GateMinds x = people(9);
        traceIs(x);
        int[][][] bodies = {
            {{10}, {11, 10}, {12, 11, 10}, {13}},
            {{20, 10}, {11, 20, 10}, {12, 11, 20, 10}, {21, 13, 11, 20, 10}},
            {{10}, {30, 11, 10}, {12, 30, 11, 10}, {13}},
            {{10}, {11, 10}, {40, 12, 11, 10}, {13}},
            {{50, 20, 10}, {11, 50, 20, 10}, {51, 12, 11, 50, 20, 10}, {21, 13, 11, 50, 20, 10}},
            {{10}, {60, 30, 11, 10}, {12, 60, 30, 11, 10}, {13}},
            {{70}, {71, 11, 70}, {12, 71, 11, 70}, {13}}
        };
        for (int kind = 0; kind < 7; kind++) {
            x = people(9);
            x.become(0, 10 * kind + 9);
            for (int voice = 0; voice < 4; voice++) {
                x.voice(0, voice, 7);
                traceIs(x, bodies[kind][voice]);
            }
        }
        // those of one that PARTED, too; none of a call that is no voice
        for (int kind = 0; kind < 7; kind++) {
            x = people(0);
            x.voice(0, 2, 0);
            x.become(0, 10 * kind);
            due(BEYOND, x.voice(0, 4, 0), x.voice(1, 0, 0));
            traceIs(x, 12, 11, 10);
            due(PARTED, x.voice(0, 3, 0));
            if (kind == 1 || kind == 4) traceIs(x, 21, 13); else traceIs(x, 13);
        }
    }

    private static void sheets() {
        about("Terms 4: SHEETS 0 .. 3 are rows of 8, 16, 32 bits, at most 24 numbers, or missing (as at first).");
        GateMinds x = new GateMinds();
        for (int s : new int[] {-1, 4, MIN, MAX}) {
            due(BEYOND, x.sheet(s, 8, 1), x.sheet(s, 0, 0), x.put(s, 0, 0), x.holds(s), x.judge(s), x.fits(s));
            due(BEYOND, x.move(s, 0, 0, 0, 0), x.move(0, 0, s, 0, 0), x.move(s, 0, s, 0, 0));
        }
        for (int s = 0; s < 4; s++) {
            due(NONE, x.put(s, 0, 0), x.holds(s), x.judge(s), x.fits(s), x.move(s, 0, s, 0, 0));
        }
        int[] widths = {8, 16, 32};
        for (int s = 0; s < 4; s++) {
            for (int bits : widths) {
                due(1, x.sheet(s, bits, 24), x.put(s, 0, 1), x.put(s, 23, 1), x.sheet(s, bits, 0));
                due(BEYOND, x.put(s, 0, 1), x.sheet(s, bits, 25), x.sheet(s, bits, MAX));
            }
        }
        for (int bits : new int[] {1, 7, 9, 15, 17, 24, 31, 33, 64, -1, -8, MIN, MAX}) due(BEYOND, x.sheet(0, bits, 1));
        due(1, x.sheet(0, 8, 24));
        due(24, x.move(0, 0, 0, 0, 24));
        due(BEYOND, x.move(0, 0, 0, 0, 25), x.put(0, 24, 0), x.put(0, -1, 0));
        due(1, x.sheet(0, 0, 24));
        due(NONE, x.put(0, 0, 0));
    }
}
