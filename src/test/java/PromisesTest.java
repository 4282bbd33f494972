/** Each promise of the document with ordinary inputs, its edges and wrong inputs; answers worked out by hand. */
public final class PromisesTest extends Checks {
    public static void main(String[] args) {
        newObject();
        person();
        personIs();
        become();
        as();
        gate();
        gateIs();
        hold();
        pass();
        stock();
        grass();
        feeds();
        texts();
        faults();
        untell();
        law();
        hours();
        strays();
        loose();
        hour();
        then();
        first();
        fewest();
        way();
        cut();
        roams();
        odds();
        fits();
        voices();
        traces();
        sheets();
        put();
        move();
        holds();
        judge();
        images();
        waiting();
        count();
        told();
        end();
    }

    private static void newObject() {
        about("promise 1");
        GateMinds x = new GateMinds();
        for (int what = 0; what < 9; what++) due(0, x.count(what));
        due(1, x.count(9));
        for (int f = 0; f < 7; f++) due(20, x.grass(f, 5));
        due(0, x.untell(0), x.untell(1));
        for (int s = 0; s < 4; s++) due(NONE, x.put(s, 0, 0));
        due(NONE, x.restore(), x.body(0));
        x = new GateMinds();
        for (int k = 1; k <= 6; k++) due(0, x.told(k));
        due(1, x.image());
    }

    private static void person() {
        about("promise 2");
        GateMinds x = new GateMinds();
        due(BEYOND, x.person(-1), x.person(70), x.person(MIN), x.person(MAX));
        due(0, x.person(0));
        due(1, x.person(69));
        due(2, x.person(37));
        due(3, x.person(10));
        due(4, x.person(20));
        due(5, x.person(50));
        due(BEYOND, x.person(70), x.person(-1));
        due(FULL, x.person(0), x.person(69));
        due(6, x.count(0), x.personIs(1, 0));
        due(9, x.personIs(1, 1));
        due(3, x.personIs(2, 0));
        due(7, x.personIs(2, 1));
    }

    private static void personIs() {
        about("promise 3");
        GateMinds x = people(7, 17, 27, 37, 47, 57);
        due(BEYOND, x.personIs(-1, 0), x.personIs(6, 0), x.personIs(0, -1), x.personIs(0, 5), x.personIs(MIN, MAX));
        for (int p = 0; p < 6; p++) {
            due(p, x.personIs(p, 0));
            due(7, x.personIs(p, 1));
            due(0, x.personIs(p, 2), x.personIs(p, 3));
        }
        due(17, x.personIs(0, 4), x.personIs(3, 4));
        due(8, x.personIs(1, 4), x.personIs(4, 4));
        due(51, x.personIs(2, 4));
        due(56, x.personIs(5, 4));
        x.gate(0, 1, 9);
        x.gate(1, 2, 4);
        x.gate(2, 3, 0);
        int[] loads = {13, 16, 26, 13, 10, 26};
        for (int p = 0; p < 6; p++) {
            x.hold(0, p);
            x.hold(1, p);
            x.hold(2, p);
            due(3, x.personIs(p, 2));
            due(loads[p], x.personIs(p, 3));
        }
        x.hold(0, 4);
        x.hold(2, 4);
        due(10, x.personIs(4, 4));
        x.become(0, 63);
        x.hold(0, 0);
        x.hold(1, 0);
        x.hold(2, 0);
        // the rests of 0, 1, 2 by 3 come on top
        due(16, x.personIs(0, 3));
        x.gate(3, 4, 0);
        x.gate(3, 4, 1);
        x.hold(3, 0);
        x.hold(4, 0);
        due(18, x.personIs(0, 3));
        x.hold(3, -1);
        x.hold(4, -1);
        int[] boy = {17, 16, 15, 14, 13, 12, 17};
        for (int h = 0; h < 7; h++) {
            x.hour(h);
            due(boy[h], x.personIs(3, 4));
            due(0, x.personIs(0, 4));
        }
        x.hour(11);
        due(0, x.personIs(0, 4));
        x.hour(12);
        due(13, x.personIs(0, 4));
        x.hour(23);
        due(13, x.personIs(0, 4));
        x.hour(24);
        due(0, x.personIs(0, 4));
        text(x, 0, "w*100+h");
        due(19 + 19 + 15, personWith(x, 0, 9999));
        text(x, 0, "g+h");
        due(0 + 1 + 2 + 3 * 15, personWith(x, 0, 9999));
    }

    private static int personWith(GateMinds x, int p, int hour) {
        x.hour(hour);
        if (hour == 9999) x.become(p, 0);
        return x.personIs(p, 3);
    }

    private static void become() {
        about("promise 4");
        GateMinds x = people(25);
        due(BEYOND, x.become(-1, 0), x.become(1, 0), x.become(0, -1), x.become(0, 70));
        due(2, x.become(0, 69));
        due(6, x.personIs(0, 0), x.become(0, 3));
        due(0, x.personIs(0, 0), x.become(0, 3));
        due(3, x.personIs(0, 1));
    }

    private static void as() {
        about("promise 5");
        GateMinds x = people(1, 12, 23, 34, 45, 56);
        due(BEYOND, x.as(-1, 0), x.as(6, 0), x.as(0, -1), x.as(0, 7), x.as(6, 6));
        String under = "1000000 1100000 1010000 1001000 1100100 1010010";
        for (int p = 0; p < 6; p++) {
            for (int kind = 0; kind < 7; kind++) due(under.charAt(8 * p + kind) == '1' ? p + 1 : KIND, x.as(p, kind));
        }
        x.become(0, 69);
        due(9, x.as(0, 0), x.as(0, 6));
        due(KIND, x.as(0, 1), x.as(0, 5));
    }

    private static void gate() {
        about("promise 6");
        GateMinds x = people(0);
        due(BEYOND, x.gate(-1, 0, 0), x.gate(7, 0, 0), x.gate(0, -1, 0), x.gate(0, 7, 0), x.gate(3, 3, 0));
        due(BEYOND, x.gate(0, 1, -1), x.gate(0, 1, 10), x.gate(MIN, MAX, MIN));
        for (int g = 0; g < 9; g++) due(g, x.gate(g % 2 == 0 ? 6 : 0, 5, g));
        due(FULL, x.gate(0, 1, 0));
        due(BEYOND, x.gate(1, 1, 0), x.gate(0, 1, 10));
        due(9, x.count(1));
        due(511, x.count(5));
    }

    private static void gateIs() {
        about("promise 7");
        GateMinds x = people(0, 0);
        due(BEYOND, x.gateIs(0, 0));
        x.gate(6, 2, 9);
        x.gate(0, 1, 0);
        due(BEYOND, x.gateIs(-1, 0), x.gateIs(2, 0), x.gateIs(0, -1), x.gateIs(0, 4));
        due(6, x.gateIs(0, 0));
        due(2, x.gateIs(0, 1));
        due(9, x.gateIs(0, 2));
        due(-1, x.gateIs(0, 3), x.gateIs(1, 3));
        x.hold(1, 1);
        due(1, x.gateIs(1, 3), x.gateIs(1, 1));
        due(0, x.gateIs(1, 0), x.gateIs(1, 2));
    }

    private static void hold() {
        about("promise 8");
        GateMinds x = people(0, 0);
        due(BEYOND, x.hold(0, 0));
        x.gate(0, 1, 0);
        x.gate(0, 1, 0);
        due(BEYOND, x.hold(-1, 0), x.hold(2, 0), x.hold(0, 2), x.hold(0, -2), x.hold(0, MIN));
        due(3, x.count(5));
        due(-1, x.hold(1, 1));
        due(1, x.hold(1, 1), x.hold(1, 0), x.count(5));
        due(0, x.hold(1, -1));
        due(-1, x.hold(1, -1));
    }

    private static void pass() {
        about("promise 9");
        GateMinds x = people(0, 0, 0);
        for (int g = 0; g < 4; g++) x.gate(0, 1, 0);
        due(BEYOND, x.pass(-1, 0), x.pass(0, 3), x.pass(3, 0), x.pass(1, 1), x.pass(0, -1));
        due(0, x.pass(0, 1));
        x.hold(0, 0);
        x.hold(2, 0);
        x.hold(3, 2);
        due(2, x.pass(0, 1), x.personIs(1, 2), x.gateIs(3, 3));
        due(0, x.pass(0, 1), x.personIs(0, 2));
        due(-1, x.gateIs(1, 3));
        due(1, x.pass(2, 0));
    }

    private static void stock() {
        about("promise 10");
        GateMinds x = new GateMinds();
        due(BEYOND, x.stock(-1), x.stock(7), x.stock(MIN));
        for (int b = 0; b < 6; b++) due(b, x.stock(6 - b));
        due(BEYOND, x.stock(7));
        due(FULL, x.stock(0));
        due(6, x.count(2));
        about("promise 11");
        due(BEYOND, x.stockAt(-1), x.stockAt(6), x.stockAt(MAX), new GateMinds().stockAt(0));
        for (int b = 0; b < 6; b++) due(6 - b, x.stockAt(b));
    }

    private static void grass() {
        about("promise 12");
        GateMinds x = new GateMinds();
        due(BEYOND, x.grass(-1, 0), x.grass(7, 0), x.grass(0, -1), x.grass(0, 100), x.grass(0, MIN));
        due(20, x.grass(6, 99));
        due(99, x.grass(6, 0));
        due(0, x.grass(6, 1));
        due(20, x.grass(0, 20));
    }

    private static void feeds() {
        about("promise 13");
        GateMinds x = new GateMinds();
        due(BEYOND, x.feed(0L, 0), x.feed(0L, 9), x.feed(0L, -1), x.feed(0L, MIN));
        due(0, x.count(6));
        due(8, x.feed(-1L, 8));
        for (int n = 16; n <= 56; n += 8) due(n, x.feed(0L, 8));
        due(FULL, x.feed(0L, 5), x.feed(0L, 8));
        due(BEYOND, x.feed(0L, 9));
        due(56, x.count(6));
        due(60, x.feed(0L, 4), x.count(6));
        due(FULL, x.feed(0L, 1));
        due(-10, x.text(0));
        // what stands above the n lowest bytes doesn't come
        due(1, x.feed(0x3900000037L, 1));
        due(2, x.feed(0xffff38L, 1));
        due(1, x.text(0));
        due(19, x.law(0, 0, 0, 0));
        due(8, x.feed(0x2b312b312b312b31L, 8));
        due(9, x.feed(0x31L, 1));
        due(1, x.text(0));
        due(5, x.law(0, 0, 0, 0));
        due(7, feed(x, "1+2-g+5"));
        due(1, x.text(0));
        due(4, x.law(0, 0, 0, 4));
    }

    private static void texts() {
        about("promise 14");
        GateMinds x = new GateMinds();
        due(-10, x.text(0), x.text(1));
        feed(x, "w");
        due(BEYOND, x.text(-1), x.text(2), x.text(MIN));
        due(1, x.count(6), x.text(0));
        due(0, x.count(6));
        due(7, x.law(0, 7, 8, 9));
        due(1, text(x, 0, "h"));
        due(8, x.law(0, 7, 8, 9));
        due(-11, text(x, 0, "g)"));
        due(0, x.count(6));
        due(8, x.law(0, 7, 8, 9));
        due(-10, x.text(0));
        due(8, x.law(0, 7, 8, 9));
        // g 7, f 3, d 20
        due(7, value("g"), value("0007"), value("1+2*3"), value("10-2-1"), value("(((((7)))))"));
        due(21, value("(g)*f"), value("g*f"), value("1+d"));
        due(2, value("d/g"), value("20/3/3"), value("100%7"), value("5-10/3"));
        due(6, value("d%g"), value("!0*6"), value("13/2"), value("2*3%7"));
        due(0, value("g/0"), value("g%0"), value("g/(f-3)"), value("g%(f-f)"), value("!g"), value("!!0"), value("0-5"));
        due(1, value("f<g"), value("g>f"), value("g=7"), value("!0"), value("!!g"), value("5|0"), value("0|5"), value("5&2"));
        due(0, value("g<f"), value("f>g"), value("g=f"), value("0|0"), value("0&5"), value("5&0"), value("g<7"), value("g>7"));
        due(1, value("0&0|1"), value("1|0&0"), value("1<2&2<3"), value("1+1=2"), value("2=1+1"), value("(1<2)<3"), value("(0-7)/2=0-3"));
        due(1, value("(0-7)%2=0-1"), value("0-7/2=0-3"), value("!g=0"), value("!!!!!0"), value("!(!(!g))=0"));
        due(99, value("9999"), value("99"), value("100"), value("g*f*d"));
        // 9999 * 9999 * 9999 as an int is -1536857649; behind 9999 five times it is above 0
        due(1, value("9999*9999*9999<0"), value("9999*9999*9999*9999*9999=(0-9999)*(9999*9999*9999)*(0-9999)"));
        due(1, value("2048*2048*512<0"), value("2048*2048*512/(0-1)=2048*2048*512"), value("2048*2048*512%(0-1)=0"));
    }

    private static void faults() {
        about("promise 14");
        due(-10, value("w"), value(" "), value(")"), value("+1"), value("-1"), value("h"), value("\u00e7"), value("G"));
        due(-11, value("1 "), value("1w"), value("g1"), value("gg"), value("1!"), value("!+"), value("1("), value("1)"), value("!"), value("("), value("()"));
        due(-12, value("1+"), value("1|"), value("1&"), value("1<"), value("1*"), value("1=="), value("1<="), value("!("), value("(1"), value("1/*"));
        due(-13, value("1<2<3"), value("1=2>3"), value("1<2="), value("(1+"), value("1<2!"));
        due(-14, value("12345"), value("1+(2"), value("0000 "));
        due(-15, value("1<2+3<4"), value("!!!!!!1"), value("((((((1"), value("!(!(!(1"), value("(((((("), value("!!!!!("), value("((((("));
        due(-16, value("(1<2)<"), value("1<2|1<"), value("1<2|1+"), value("1234&("));
        due(1, value("1|(((((1)))))|!!!!!0"), value("!1|!1|!1|!1|!1|!1|!0"), value("(0)|(0)|(0)|(0)|(0)|(1)"));
        GateMinds x = new GateMinds();
        due(-10, text(x, 0, "f"), text(x, 0, "d"), text(x, 1, "w"), text(x, 1, "h"));
        due(1, text(x, 0, "w+h+g"), text(x, 1, "g+f+d"));
        StringBuilder longest = new StringBuilder("1");
        while (longest.length() < 59) longest.append("+1");
        due(-10 - 60, text(x, 0, longest + "+"));
        due(1, text(x, 1, longest.toString()));
        due(30, x.law(1, 0, 0, 0));
        due(1, text(x, 1, longest + "1"));
        due(40, x.law(1, 0, 0, 0));
    }

    private static void untell() {
        about("promise 15");
        GateMinds x = new GateMinds();
        text(x, 0, "3");
        due(BEYOND, x.untell(-1), x.untell(2), x.untell(MAX));
        due(0, x.untell(1));
        due(3, x.law(0, 8, 8, 8));
        due(1, x.untell(0));
        due(0, x.untell(0));
        due(8, x.law(0, 8, 0, 0));
    }

    private static void law() {
        about("promise 16");
        GateMinds x = new GateMinds();
        due(BEYOND, x.law(-1, 0, 0, 0), x.law(2, 0, 0, 0));
        due(0, x.law(0, -1, 5, 5), x.law(1, MIN, 5, 5));
        due(19, x.law(0, 19, 0, 0), x.law(0, 20, 0, 0), x.law(0, MAX, 0, 0), x.law(1, 19, 0, 0));
        due(99, x.law(1, 99, 0, 0), x.law(1, 100, 0, 0));
        text(x, 0, "w*2+h*3+g*5");
        due(2, x.law(0, 1, 0, 0));
        due(3, x.law(0, 0, 1, 0));
        due(5, x.law(0, 0, 0, 1));
        due(19, x.law(0, 9, 9, 9));
        due(0, x.law(0, -9, 0, 0), x.law(0, MAX, 0, 0));
        text(x, 1, "g*2+f*3+d*5");
        due(2, x.law(1, 1, 0, 0));
        due(3, x.law(1, 0, 1, 0));
        due(5, x.law(1, 0, 0, 1));
        text(x, 0, "w/h");
        due(0, x.law(0, MIN, -1, 0), x.law(0, 5, 0, 0));
        due(2, x.law(0, -5, -2, 0));
    }

    private static void hours() {
        about("promise 17");
        GateMinds x = new GateMinds();
        due(BEYOND, x.hours(0), x.hours(61), x.hours(-1), x.hours(MIN));
        due(0, x.hours(60), x.hours(1));
        due(61, x.count(3));
        x.hour(9999);
        due(STATE, x.hours(1), x.hours(60));
        due(BEYOND, x.hours(61));
        x.hour(9939);
        due(0, x.hours(60));
        due(9999, x.count(3));
        // 10 of room, 3 + 9 + 9 + 1 to hold: the first of the heaviest goes, then the other one, and no more
        x = people(0);
        x.gate(0, 1, 3);
        x.gate(0, 1, 9);
        x.gate(0, 1, 9);
        x.gate(0, 1, 1);
        for (int g = 0; g < 4; g++) x.hold(g, 0);
        due(2, x.hours(1));
        due(6, x.hours(1), x.hours(10));
        due(4, x.personIs(0, 3));
        // just as much as there is room for is held
        x = people(0, 0);
        x.gate(0, 1, 5);
        x.gate(0, 1, 5);
        x.gate(0, 1, 1);
        x.hold(0, 1);
        x.hold(1, 1);
        due(4, x.hours(9));
        x.hold(2, 1);
        due(1, x.hours(1));
        // a boy loses room with the hours, a guest has none by night
        x = people(30, 61);
        x.gate(0, 1, 9);
        x.gate(0, 1, 8);
        x.hold(0, 0);
        x.hour(12);
        due(2, x.hours(1));
        due(2, x.hours(1));
        due(3, x.hours(1));
        x.hold(0, 1);
        x.hour(23);
        due(2, x.hours(1));
        due(3, x.hours(1));
        // what weighs most is what the text says
        x = people(0);
        x.gate(0, 1, 9);
        x.gate(0, 1, 5);
        x.hold(0, 0);
        x.hold(1, 0);
        text(x, 0, "19-w");
        due(2, x.hours(1));
    }

    private static void strays() {
        about("promise 17");
        GateMinds x = people(0);
        x.stock(0);
        x.gate(0, 1, 0);
        x.gate(2, 0, 0);
        x.gate(0, 3, 0);
        x.gate(3, 4, 0);
        x.hours(1);
        due(0, x.stockAt(0), x.count(4));
        due(19, x.grass(0, 19));
        // 1, 2, 3 draw alike now: the least gate's; 4 is two gates away
        x.grass(4, 90);
        x.hours(1);
        due(1, x.stockAt(0), x.count(4));
        due(19, x.grass(1, 19), x.grass(0, 19));
        // a gate that is held is shut; gates lead both ways
        x.grass(1, 0);
        x.hold(0, 0);
        x.hours(1);
        due(1, x.stockAt(0), x.count(4));
        due(0, x.grass(1, 0));
        x.hold(0, -1);
        x.hours(1);
        due(0, x.stockAt(0));
        due(2, x.count(4));
        // the second beast sees what the first one ate
        x = new GateMinds();
        x.stock(0);
        x.stock(0);
        x.gate(0, 1, 0);
        x.grass(1, 21);
        x.hours(1);
        due(1, x.stockAt(0), x.count(4));
        due(0, x.stockAt(1));
        due(20, x.grass(1, 20));
        due(19, x.grass(0, 20));
        text(x, 1, "f=1&d=5|f=0&d>5");
        due(1, x.hours(4));
        due(0, x.stockAt(1));
        x.hours(1);
        due(1, x.stockAt(1));
        x.hours(1);
        due(0, x.stockAt(0), x.stockAt(1));
        due(4, x.count(4));
        // 6 beasts go over and back: 360 in 60 hours, 9999 at last
        x = new GateMinds();
        for (int b = 0; b < 6; b++) x.stock(0);
        x.gate(0, 1, 0);
        text(x, 1, "f=1-d%2");
        for (int n = 0; n < 27; n++) x.hours(60);
        due(9720, x.count(4));
        due(9720 + 276, x.then(46, 1));
        due(9999, x.then(47, 1), x.then(60, 1));
        x.hours(60);
        due(9999, x.count(4));
    }

    private static void loose() {
        about("promise 18");
        GateMinds x = new GateMinds();
        due(BEYOND, x.loose(0), x.loose(31), x.loose(-1), x.loose(MIN));
        x.gate(0, 1, 0);
        due(1, x.loose(30));
        due(30, x.count(3));
        due(1, x.count(9));
        x = people(9, 9);
        due(0, x.loose(1));
        due(1, x.count(9), x.count(3));
        x.hour(9999);
        due(STATE, x.loose(1), x.loose(30));
        due(BEYOND, x.loose(31));
        x.hour(9969);
        due(0, x.loose(30));
        due(9999, x.count(3));
        // one of each is enough for draws
        x = people(9);
        x.gate(0, 1, 0);
        x.loose(1);
        due(drawnOf(1, 3), x.count(9));
        x = people(9, 9);
        for (int g = 0; g < 4; g++) x.gate(0, 1, 1);
        int z = 1;
        for (int n = 0; n < 12; n++) {
            int was = x.count(5);
            int[] draw = new int[3];
            for (int i = 0; i < 3; i++) {
                z = z * 1103515245 + 12345;
                draw[i] = z >>> 8;
            }
            int bit = 1 << draw[0] % 4;
            due(draw[2] % 4 == 0 ? was | bit : was & ~bit, x.loose(1));
            due(draw[2] % 4 == 0 ? -1 : draw[1] % 2, x.gateIs(draw[0] % 4, 3));
            due(z, x.count(9));
        }
    }

    private static int drawnOf(int z, int times) {
        int drawn = z;
        for (int i = 0; i < times; i++) drawn = drawn * 1103515245 + 12345;
        return drawn;
    }

    private static void hour() {
        about("promise 19");
        GateMinds x = new GateMinds();
        due(BEYOND, x.hour(-1), x.hour(10000), x.hour(MIN));
        due(0, x.hour(9999));
        due(9999, x.hour(0));
        due(0, x.hour(0));
        about("promise 20");
        due(1, x.seed(MIN));
        due(MIN, x.seed(-1000000001));
        due(-1000000001, x.seed(5));
        due(5, x.seed(-1000000001));
        due(3, x.told(1));
    }

    private static void then() {
        about("promise 21");
        GateMinds x = people(30, 0);
        due(BEYOND, x.then(-1, 0), x.then(61, 0), x.then(0, -1), x.then(0, 2), x.then(MIN, MIN));
        x.gate(0, 1, 8);
        x.gate(1, 2, 0);
        x.hold(0, 0);
        x.stock(0);
        due(2, x.then(0, 0), x.then(3, 0));
        due(0, x.then(3, 1));
        due(3, x.then(4, 0), x.then(60, 0));
        // from 20 to 18 it eats where it stands while the gate is shut; then it goes on
        due(1, x.then(4, 1));
        due(20, x.grass(0, 20));
        due(2, x.count(5));
        due(0, x.count(3), x.stockAt(0), x.count(4));
        x.hour(9999);
        x.become(0, 30);
        // behind 9999 comes 10000, whose rest by 6 is 4: no room for 8
        due(2, x.then(0, 0));
        due(3, x.then(1, 0), x.then(2, 0));
        due(9999, x.count(3));
        text(x, 0, "h=16&1");
        x.become(0, 0);
        due(2, x.then(60, 0));
        text(x, 0, "19*(h=17)");
        // 9999 is 15 by 24, 10001 is 17
        due(2, x.then(2, 0));
        due(3, x.then(3, 0));
    }

    private static void first() {
        about("promise 22");
        GateMinds x = people(0);
        due(BEYOND, x.first(0));
        x.gate(0, 1, 0);
        x.gate(0, 1, 0);
        due(BEYOND, x.first(-1), x.first(2), x.first(MAX));
        due(0, x.first(0), x.first(1));
        x.hold(1, 0);
        due(NONE, x.first(1));
        due(0, x.first(0));
        text(x, 0, "19*(h=0)");
        x.hour(1);
        due(24, x.first(1));
        due(1, x.count(3));
        // of 6 gates one an hour goes while more is held than there is room for
        x = people(0);
        for (int g = 0; g < 6; g++) {
            x.gate(0, 1, 9);
            x.hold(g, 0);
        }
        for (int g = 0; g < 5; g++) due(g + 1, x.first(g));
        due(NONE, x.first(5));
        // once a day one goes: behind 12, 36, 60 hours; an hour earlier in the day the last one is too late
        x = dailyGates();
        due(12, x.first(0));
        due(36, x.first(1));
        due(60, x.first(2));
        x.hour(23);
        due(37, x.first(1));
        due(NONE, x.first(2));
        x.hour(9999);
        due(21, x.first(0));
    }

    private static void fewest() {
        about("promise 23");
        GateMinds x = new GateMinds();
        due(0, x.fewest());
        x.gate(0, 1, 0);
        due(NONE, x.fewest());
        x.person(0);
        due(1, x.fewest());
        x.gate(0, 1, 9);
        x.gate(0, 1, 2);
        due(NONE, x.fewest());
        x.person(30);
        due(2, x.fewest());
        // 6 + 6, 6 + 4 + 4 and not 6 + 6 + 4
        x = people(2, 4);
        x.gate(0, 1, 6);
        x.gate(0, 1, 6);
        x.gate(0, 1, 6);
        x.gate(0, 1, 4);
        x.gate(0, 1, 4);
        due(2, x.fewest());
        x.become(0, 1);
        due(NONE, x.fewest());
        x.person(25);
        due(2, x.fewest());
        x.become(2, 29);
        due(1, x.fewest());
        // for Amos what is open costs nothing
        x.become(2, 50);
        x.become(0, 0);
        x.become(1, 0);
        due(1, x.fewest());
        for (int g = 0; g < 5; g++) x.hold(g, 0);
        due(2, x.fewest());
        // a groom's room grows with what he holds now
        x = people(40);
        x.gate(0, 1, 5);
        x.gate(0, 1, 2);
        due(NONE, x.fewest());
        x.hold(1, 0);
        due(1, x.fewest());
        // what is open costs Amos nothing, so he needs no room for it
        x = people(50);
        for (int g = 0; g < 9; g++) x.gate(0, 1, 9);
        due(1, x.fewest());
        text(x, 0, "w*19");
        due(1, x.fewest());
        x.untell(0);
        for (int g = 0; g < 2; g++) x.hold(g, 0);
        due(36, x.personIs(0, 3));
        due(NONE, x.fewest());
        // a guest by night and by day
        x = people(60);
        x.gate(0, 1, 1);
        due(NONE, x.fewest());
        x.hour(12);
        due(1, x.fewest());
        text(x, 0, "19");
        due(NONE, x.fewest());
        // six are needed for six
        x = people(0, 0, 0, 0, 0, 0);
        for (int g = 0; g < 6; g++) x.gate(0, 1, 9);
        due(6, x.fewest());
        x.gate(0, 1, 2);
        due(NONE, x.fewest());
    }

    private static void way() {
        about("promise 24");
        GateMinds x = people(0);
        due(BEYOND, x.way(-1, 0), x.way(0, 7), x.way(7, 7), x.way(MIN, 0));
        due(NONE, x.way(0, 6));
        due(0, x.way(6, 6));
        for (int f = 0; f < 6; f++) x.gate(f, f + 1, 0);
        due(6, x.way(0, 6), x.way(6, 0));
        x.hold(3, 0);
        due(6, x.way(0, 6));
        x.gate(5, 1, 0);
        due(3, x.way(0, 6));
        due(2, x.way(0, 5), x.way(1, 6));
        x.gate(0, 6, 0);
        due(1, x.way(6, 0));
        due(2, x.way(0, 5));
    }

    private static void cut() {
        about("promise 25");
        GateMinds x = people(0);
        due(BEYOND, x.cut(-1, 0, 0), x.cut(0, 7, 0), x.cut(2, 2, 0), x.cut(0, 1, 2), x.cut(0, 1, -1));
        due(0, x.cut(0, 1, 0), x.cut(0, 1, 1));
        x.gate(0, 1, 0);
        due(0, x.cut(0, 2, 0), x.cut(0, 2, 1));
        x.gate(1, 2, 0);
        due(1, x.cut(0, 2, 0), x.cut(0, 2, 1), x.cut(2, 0, 1), x.cut(1, 0, 1));
        x.gate(0, 1, 0);
        due(1, x.cut(0, 2, 0));
        due(2, x.cut(0, 2, 1), x.cut(0, 1, 0));
        due(5, x.cut(0, 1, 1));
        x.hold(1, 0);
        due(2, x.cut(0, 2, 1));
        x.gate(2, 1, 0);
        due(2, x.cut(0, 2, 0));
        due(5, x.cut(0, 2, 1));
        due(10, x.cut(1, 2, 1));
        for (int g = 0; g < 5; g++) x.gate(0, 2, 0);
        due(7, x.cut(0, 2, 0));
        due(5 + 496, x.cut(0, 2, 1), x.cut(2, 0, 1));
        x = new GateMinds();
        for (int g = 0; g < 9; g++) x.gate(5, 6, 0);
        due(9, x.cut(5, 6, 0));
        due(511, x.cut(5, 6, 1));
    }

    private static void roams() {
        about("promise 26");
        GateMinds x = people(0);
        due(BEYOND, x.roams(-1), x.roams(7), x.roams(MAX));
        due(1, x.roams(0));
        due(64, x.roams(6));
        x.gate(0, 1, 0);
        x.gate(2, 1, 0);
        x.gate(5, 6, 0);
        due(7, x.roams(0), x.roams(1), x.roams(2));
        due(96, x.roams(6));
        x.hold(1, 0);
        due(3, x.roams(0));
        due(4, x.roams(2));
        for (int f = 6; f > 1; f--) x.gate(f, f - 1, 0);
        due(127, x.roams(0), x.roams(6), x.roams(3));
    }

    private static void odds() {
        about("promise 27");
        GateMinds x = people(0);
        due(BEYOND, x.odds(-1, 0), x.odds(7, 0), x.odds(0, 2), x.odds(0, -1));
        due(STATE, x.odds(0, 0), x.odds(6, 1));
        x.gate(0, 1, 0);
        due(0, x.odds(0, 0));
        due(1, x.odds(0, 1));
        x.hold(0, 0);
        due(1, x.odds(0, 0), x.odds(0, 1), x.odds(1, 0));
        due(0, x.odds(2, 0));
        x.gate(1, 2, 0);
        x.hold(1, 0);
        x.gate(0, 3, 0);
        x.gate(0, 3, 0);
        x.hold(3, 0);
        // at 0 the gate 0 only: 1 of 4; at 1 the gates 0, 1: 2 of 4
        due(1, x.odds(0, 0), x.odds(1, 0));
        due(4, x.odds(0, 1));
        due(2, x.odds(1, 1));
        x.gate(4, 0, 0);
        x.hold(4, 0);
        x.gate(5, 6, 0);
        x.hold(5, 0);
        // 2 of 6
        due(1, x.odds(0, 0));
        due(3, x.odds(3, 1));
        x.hold(2, 0);
        // 4 of 6
        due(2, x.odds(0, 0));
        due(3, x.odds(0, 1));
        due(0, x.count(5));
    }

    private static void fits() {
        about("promise 28");
        GateMinds x = people(0, 0);
        due(BEYOND, x.fits(-1), x.fits(4));
        due(NONE, x.fits(0), x.fits(3));
        for (int g = 0; g < 3; g++) {
            x.gate(0, 1, 9);
            x.hold(g, 0);
        }
        x.sheet(0, 8, 3);
        due(0, x.fits(0));
        x.put(0, 0, -1);
        due(1, x.fits(0));
        x.put(0, 1, 255);
        due(2, x.fits(0));
        x.put(0, 2, -1);
        due(NONE, x.fits(0));
        x.put(0, 2, 1);
        due(NONE, x.fits(0));
        x.sheet(1, 32, 0);
        due(0, x.fits(1));
        x.sheet(1, 16, 4);
        due(NONE, x.fits(1));
        x.sheet(1, 16, 2);
        due(0, x.fits(1));
        x.put(1, 1, 6);
        due(NONE, x.fits(1));
        due(0, x.count(5), x.count(3));
        x = people(0);
        x.gate(0, 1, 1);
        x.hold(0, 0);
        x.sheet(0, 8, 1);
        x.put(0, 0, -1);
        text(x, 0, "19*(h=11)");
        due(12, x.fits(0));
        x.hour(9999);
        due(21, x.fits(0));
        x = dailyGates();
        x.sheet(0, 8, 3);
        for (int g = 0; g < 3; g++) x.put(0, g, -1);
        due(60, x.fits(0));
        x.hour(23);
        due(NONE, x.fits(0));
    }

    private static void voices() {
        about("promise 29");
        // number 1 and m 5, of all kinds
        GateMinds x = people(0, 5);
        due(BEYOND, x.voice(-1, 0, 0), x.voice(2, 0, 0), x.voice(0, -1, 0), x.voice(0, 4, 0), x.voice(MAX, MAX, 0));
        int[][] answers = {
            {8, 16, 11, 1},
            {4, 8, 3, 1 - 4},
            {8, -16, -21, 1},
            {8, 16, 3, 1},
            {12, 24, 19 ^ 1, 1 + -12},
            {8, -18, -23, 1},
            {9, 23, 18, 1}
        };
        for (int kind = 0; kind < 7; kind++) {
            x.become(1, 10 * kind + 5);
            for (int voice = 0; voice < 4; voice++) due(answers[kind][voice], x.voice(1, voice, 7));
        }
        x.become(1, 5);
        due(-1, x.voice(1, 3, -7));
        due(0, x.voice(1, 3, -3), x.voice(1, 3, 3));
        due(MIN, x.voice(1, 0, MAX));
        due(0, x.voice(1, 1, MAX));
        x.become(1, 0);
        due(MIN, x.voice(1, 3, MIN));
        due(-1000000001, x.voice(1, 3, 1000000001), x.voice(1, 0, -1000000002));
        due(5, x.told(1));
        x.become(1, 35);
        // a boy's x / 2 is cut toward 0
        due((-3 + 1) * 2 - 5, x.voice(1, 2, -7));
        due(PARTED, x.voice(0, 3, 7));
        x.become(1, 41);
        due(PARTED, x.voice(1, 3, 7));
        x.become(1, 11);
        due(PARTED, x.voice(1, 3, 0));
        due(3, x.told(6));
        due(1, x.voice(1, 0, 4));
        due(3, x.told(6));
    }

    private static void trace(GateMinds x, int... bodies) {
        due(bodies.length, x.count(8));
        for (int i = 0; i < bodies.length; i++) due(bodies[i], x.body(i));
        due(NONE, x.body(bodies.length), x.body(-1), x.body(MIN), x.body(30));
    }

    private static void traces() {
        about("promise 30");
        GateMinds x = people(9, 19, 29, 39, 49, 59);
        trace(x);
        int[][][] bodies = {
            {{10}, {11, 10}, {12, 11, 10}, {13}},
            {{20, 10}, {11, 20, 10}, {12, 11, 20, 10}, {21, 13, 11, 20, 10}},
            {{10}, {30, 11, 10}, {12, 30, 11, 10}, {13}},
            {{10}, {11, 10}, {40, 12, 11, 10}, {13}},
            {{50, 20, 10}, {11, 50, 20, 10}, {51, 12, 11, 50, 20, 10}, {21, 13, 11, 50, 20, 10}},
            {{10}, {60, 30, 11, 10}, {12, 60, 30, 11, 10}, {13}},
            {{70}, {71, 11, 70}, {12, 71, 11, 70}, {13}}
        };
        for (int kind = 0; kind < 7; kind++) {
            x.become(0, 10 * kind + 9);
            for (int voice = 0; voice < 4; voice++) {
                x.voice(0, voice, 7);
                trace(x, bodies[kind][voice]);
            }
        }
        // what is no voice of anybody changes nothing
        x.voice(0, 0, 1);
        due(BEYOND, x.voice(6, 1, 1), x.voice(-1, 3, 1), x.voice(0, 4, 1), x.voice(0, -1, 1));
        trace(x, 70);
        // the bodies of one that parted, of each kind: a lover's minds(1) doesn't begin any more
        for (int kind = 0; kind < 7; kind++) {
            x.voice(0, 1, 1);
            x.become(1, 10 * kind + 1);
            due(PARTED, x.voice(1, 3, 1));
            if (kind == 1 || kind == 4) trace(x, 21, 13); else trace(x, 13);
        }
        // what comes behind one that parted begins anew, and is worked out as ever
        due(9 * 2 + 1, x.voice(1, 1, 0));
        trace(x, 71, 11, 70);
    }

    private static void sheets() {
        about("promise 31");
        GateMinds x = new GateMinds();
        due(BEYOND, x.sheet(-1, 8, 1), x.sheet(4, 8, 1), x.sheet(0, 7, 1), x.sheet(0, -8, -1), x.sheet(0, 64, 1), x.sheet(4, 0, 1));
        due(STATE, x.sheet(0, 8, -1), x.sheet(3, 32, MIN));
        due(BEYOND, x.sheet(0, 8, 25), x.sheet(0, 16, MAX), x.sheet(-1, 8, -1));
        due(NONE, x.put(0, 0, 0));
        due(1, x.sheet(0, 0, -5), x.sheet(0, 0, 99), x.sheet(0, 8, 24), x.put(0, 23, 5), x.sheet(1, 16, 0), x.sheet(2, 32, 1));
        due(BEYOND, x.put(0, 24, 0), x.put(1, 0, 0), x.put(2, 1, 0));
        due(STATE, x.sheet(0, 8, -1));
        x.sheet(1, 8, 1);
        x.grass(0, 5);
        x.move(0, 23, 1, 0, 1);
        due(1, x.judge(1), x.sheet(0, 8, 24));
        x.move(0, 23, 1, 0, 1);
        due(0, x.judge(1));
        due(1, x.sheet(1, 0, 3));
        due(NONE, x.judge(1));
    }

    private static void put() {
        about("promise 32");
        GateMinds x = new GateMinds();
        due(BEYOND, x.put(-1, 0, 0), x.put(4, 0, 0));
        due(NONE, x.put(0, 0, 0), x.put(3, -1, 0));
        x.sheet(0, 8, 2);
        x.sheet(1, 16, 2);
        x.sheet(2, 32, 2);
        due(BEYOND, x.put(0, -1, 0), x.put(0, 2, 0), x.put(0, MIN, 0), x.put(0, MAX, 0));
        x.grass(0, 44);
        for (int s = 0; s < 3; s++) {
            due(1, x.put(s, 0, 44), x.judge(s));
            due(1, x.put(s, 0, 44 + 256));
            due(s == 0 ? 1 : 0, x.judge(s));
            due(1, x.put(s, 0, 44 + 65536 * 5));
            due(s < 2 ? 1 : 0, x.judge(s));
            due(1, x.put(s, 0, 44 - 65536));
            due(s < 2 ? 1 : 0, x.judge(s));
        }
        x.person(0);
        x.gate(0, 1, 0);
        // all bits 1 is -1: nobody
        x.put(0, 0, 255);
        x.put(1, 0, 65535);
        x.put(2, 0, 255);
        due(1, x.holds(0), x.holds(1));
        due(0, x.holds(2));
    }

    /** A sheet's numbers one by one, told by grass. */
    private static void row(GateMinds x, int sheet, int... numbers) {
        for (int f = 0; f < numbers.length; f++) x.grass(f, numbers[f]);
        due(numbers.length, x.judge(sheet));
    }

    private static void move() {
        about("promise 33");
        GateMinds x = new GateMinds();
        x.sheet(0, 8, 4);
        x.sheet(1, 8, 2);
        x.sheet(2, 16, 4);
        for (int i = 0; i < 4; i++) x.put(0, i, i + 1);
        due(BEYOND, x.move(-1, 0, 0, 0, 1), x.move(4, 0, 0, 0, 1), x.move(0, 0, -1, 0, 1), x.move(0, 0, 4, 0, 1), x.move(3, 0, 4, 0, 1));
        due(NONE, x.move(3, 0, 0, 0, 1), x.move(0, 0, 3, 0, 1), x.move(3, -1, 2, 0, 1));
        due(KIND, x.move(0, 0, 2, 0, 1), x.move(2, -1, 0, 0, -1));
        due(BEYOND, x.move(0, 0, 1, 0, -1), x.move(0, -1, 1, 0, 1), x.move(0, 0, 1, -1, 1), x.move(0, 3, 1, 0, 2));
        due(BEYOND, x.move(0, 0, 1, 1, 2), x.move(0, 5, 1, 0, 0), x.move(0, 0, 1, 3, 0), x.move(0, MAX, 1, 0, MAX), x.move(0, 0, 1, 0, MIN));
        due(0, x.move(0, 4, 1, 2, 0), x.move(0, 0, 1, 0, 0));
        row(x, 0, 1, 2, 3, 4);
        due(2, x.move(0, 1, 1, 0, 2));
        row(x, 1, 2, 3);
        due(3, x.move(0, 0, 0, 1, 3));
        row(x, 0, 1, 1, 2, 3);
        due(3, x.move(0, 1, 0, 0, 3));
        row(x, 0, 1, 2, 3, 3);
        due(4, x.move(0, 0, 0, 0, 4));
        row(x, 0, 1, 2, 3, 3);
    }

    private static void holds() {
        about("promise 34");
        GateMinds x = people(0, 0, 0);
        due(BEYOND, x.holds(-1), x.holds(4));
        due(NONE, x.holds(0), x.holds(3));
        for (int g = 0; g < 4; g++) x.gate(0, 1, 0);
        x.sheet(0, 8, 5);
        for (int i = 0; i < 5; i++) x.put(0, i, new int[] {2, -1, 0, 1, 0}[i]);
        x.hold(1, 0);
        due(4, x.holds(0));
        due(2, x.count(5), x.gateIs(0, 3));
        due(1, x.gateIs(3, 3));
        x.put(0, 0, 1);
        x.put(0, 1, 3);
        x.put(0, 2, 2);
        due(1, x.holds(0), x.gateIs(0, 3));
        due(-1, x.gateIs(1, 3));
        due(0, x.gateIs(2, 3));
        x.put(0, 0, -2);
        due(0, x.holds(0));
        due(1, x.gateIs(0, 3));
        x.sheet(0, 16, 2);
        due(2, x.holds(0));
        x.sheet(0, 32, 0);
        due(0, x.holds(0), x.told(5));
        due(2, x.told(1), x.told(2));
    }

    private static void judge() {
        about("promise 35");
        GateMinds x = new GateMinds();
        due(BEYOND, x.judge(-1), x.judge(4));
        due(NONE, x.judge(0), x.judge(3));
        x.sheet(0, 8, 9);
        due(0, x.judge(0));
        for (int i = 0; i < 9; i++) x.put(0, i, 20);
        due(7, x.judge(0));
        x.grass(3, 19);
        due(3, x.judge(0));
        x.grass(0, 0);
        due(0, x.judge(0));
        x.sheet(1, 32, 0);
        due(0, x.judge(1));
        x.sheet(1, 32, 1);
        due(1, x.judge(1));
    }

    private static void images() {
        about("promise 36");
        GateMinds x = people(35, 12);
        due(NONE, x.restore());
        x.gate(0, 1, 4);
        x.gate(2, 3, 5);
        x.hold(0, 1);
        x.stock(4);
        x.hour(77);
        x.seed(5);
        text(x, 0, "w+1");
        feed(x, "12");
        x.tell(0);
        x.tell(6);
        x.sheet(0, 8, 1);
        due(1, x.image());
        change(x);
        about("promise 37");
        for (int n = 0; n < 2; n++) {
            due(77, x.restore());
            due(2, x.count(0), x.count(1), x.count(5), x.count(6), x.count(7));
            due(1, x.count(2), x.gateIs(0, 3), x.untell(0));
            due(0, x.untell(1), x.count(4));
            due(5, x.count(9), x.personIs(0, 1), x.personIs(1, 3));
            due(3, x.personIs(0, 0));
            due(20, x.grass(0, 1), x.grass(4, 1));
            due(4, x.stockAt(0), x.gateIs(0, 2));
            due(1, x.text(1));
            due(12, x.law(1, 0, 0, 0));
            due(2, x.check());
            change(x);
        }
        due(77, x.restore());
        due(6, x.law(0, 5, 0, 0), x.personIs(1, 3));
        // what the image doesn't have
        due(1, x.put(0, 0, 3), x.count(8));
        due(10, x.body(0));
        due(1, x.told(2), x.told(1));
        about("promise 36");
        x.hour(80);
        due(2, x.image());
        x.hour(5);
        about("promise 37");
        due(80, x.restore());
        about("promise 36");
        due(3, x.image());
        x.restore();
        due(4, x.image());
    }

    private static void change(GateMinds x) {
        if (x.told(1) == 0) x.person(99);
        x.become(0, 60);
        x.person(1);
        x.gate(4, 5, 9);
        x.pass(1, 0);
        x.hold(1, 1);
        x.grass(4, 50);
        x.stock(2);
        x.hours(30);
        x.loose(2);
        x.untell(0);
        text(x, 1, "3");
        x.voice(1, 0, 4);
        x.become(1, 0);
        x.voice(1, 0, 4);
        x.tell(9);
        x.check();
        x.feed(0L, 7);
    }

    private static void waiting() {
        about("promise 38");
        GateMinds x = people(0, 10);
        for (int n = 1; n <= 24; n++) due(n, x.tell(0));
        due(FULL, x.tell(0), x.tell(1));
        due(24, x.count(7));
        about("promise 39");
        due(3, x.check());
        due(0, x.check(), x.count(7));
        x.gate(0, 1, 4);
        x.hold(0, 1);
        x.tell(0);
        due(0, x.check());
        due(1, x.tell(0));
        x.tell(5);
        due(0, x.check());
        x.tell(0);
        x.tell(4);
        x.tell(7);
        due(2, x.check());
        due(0, x.count(7));
        x.tell(1);
        x.tell(5);
        due(1, x.check());
        x.tell(0);
        x.tell(5);
        due(3, x.tell(MIN));
        due(3, x.check());
    }

    private static void count() {
        about("promise 40");
        GateMinds x = people(0, 0, 0);
        due(BEYOND, x.count(-1), x.count(10), x.count(MIN));
        for (int g = 0; g < 4; g++) x.gate(0, 1, 0);
        x.hold(2, 0);
        x.stock(0);
        x.stock(0);
        x.hours(5);
        x.seed(-1000000003);
        feed(x, "123456");
        for (int n = 0; n < 7; n++) x.tell(0);
        x.voice(0, 1, 0);
        due(3, x.count(0));
        due(4, x.count(1));
        due(2, x.count(2), x.count(8));
        due(5, x.count(3));
        // 18 behind both left 0 alone at first: the first goes over at once the second time
        due(x.then(0, 1), x.count(4));
        due(11, x.count(5));
        due(6, x.count(6));
        due(7, x.count(7));
        due(-1000000003, x.count(9));
        due(0, x.told(3));
    }

    private static void told() {
        about("promise 41");
        GateMinds x = people(0);
        due(BEYOND, x.told(0), x.told(7), x.told(-1), x.told(MIN), x.told(MAX));
        due(5, x.told(1));
        for (int n = 0; n < 2; n++) x.restore();
        for (int n = 0; n < 3; n++) x.odds(0, 0);
        for (int n = 0; n < 28; n++) x.tell(0);
        for (int n = 0; n < 6; n++) x.as(0, 3);
        for (int n = 0; n < 7; n++) x.voice(0, 3, 0);
        due(5, x.told(1));
        due(2, x.told(2));
        due(3, x.told(3));
        due(4, x.told(4));
        due(6, x.told(5));
        due(7, x.told(6));
        // a fault of a text, a number told by a voice or a seed are no errors
        x.text(0);
        x.seed(-1000000002);
        x.seed(0);
        x.voice(0, 0, -1000000004);
        due(2, x.told(2));
        due(4, x.told(4));
    }
}
