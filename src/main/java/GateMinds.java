/** Gates on a moor that stay shut only as long as somebody keeps them in mind. */
public final class GateMinds {
    private static final int LOW = -1000000000;
    private static final int BEYOND = 1;
    private static final int NONE = 2;
    private static final int STATE = 3;
    private static final int FULL = 4;
    private static final int UNLIKE = 5;
    private static final int PARTED = 6;

    private static final int FIELDS = 7;
    private static final int MOST_PEOPLE = 6;
    private static final int MOST_GATES = 9;
    private static final int MOST_STOCK = 6;
    private static final int MOST_HOUR = 9999;
    private static final int MOST_STRAYS = 9999;
    private static final int MOST_GRASS = 99;
    private static final int MOST_HEAVY = 9;
    private static final int DAY = 24;
    private static final int FAR = 60;
    private static final int NOBODY = -1;

    private static final int KINDS = 7;
    private static final int LOVER = 1;
    private static final int THINKER = 2;
    private static final int BOY = 3;
    private static final int GROOM = 4;
    private static final int AMOS = 5;
    private static final int GUEST = 6;
    private static final int[] KIND_ABOVE = {-1, 0, 0, 0, 1, 2, 0};

    private static final int USES = 2;
    private static final int MOST_TAPE = 60;
    private static final int MOST_OPEN_SIGNS = 5;
    private static final int MOST_DIGITS = 4;

    private static final int VOICES = 4;
    private static final int NODS = 0;
    private static final int MINDS = 1;
    private static final int WHISTLES = 2;
    private static final int PARTS = 3;
    private static final int MOST_TRACE = 30;
    private static final int DEEPEST_VOICE = 40;

    private static final int SHEETS = 4;
    private static final int MOST_NUMBERS = 24;
    private static final int MOST_WAITING = 24;

    private final Keep now;
    private final Keep kept;
    private final Moor thought;
    private final Reader reader;
    private final Parting parting;
    private final Speech speech;
    private final Sheet[] sheets;
    private final int[] errors;
    private int images;

    public GateMinds() {
        now = new Keep();
        kept = new Keep();
        thought = new Moor(now.weighing, now.drawing);
        reader = new Reader();
        parting = new Parting();
        speech = new Speech();
        sheets = new Sheet[SHEETS];
        for (int s = 0; s < SHEETS; s++) {
            sheets[s] = new Sheet();
        }
        errors = new int[PARTED + 1];
        images = 0;
    }

    // ---- people, gates, stock

    public int person(int km) {
        if (!isKindAndNumber(km)) {
            return fail(BEYOND);
        }
        if (now.moor.people >= MOST_PEOPLE) {
            return fail(FULL);
        }
        return now.moor.addOne(km / 10, km % 10);
    }

    public int personIs(int person, int what) {
        Moor moor = now.moor;
        if (!moor.isOne(person) || what < 0 || what > 4) {
            return fail(BEYOND);
        }
        switch (what) {
            case 0:
                return moor.kind[person];
            case 1:
                return moor.number[person];
            case 2:
                return moor.heldBy(person);
            case 3:
                return moor.load(person);
            default:
                return moor.room(person);
        }
    }

    public int become(int person, int km) {
        Moor moor = now.moor;
        if (!moor.isOne(person) || !isKindAndNumber(km)) {
            return fail(BEYOND);
        }
        int was = moor.kind[person];
        moor.kind[person] = km / 10;
        moor.number[person] = km % 10;
        return was;
    }

    public int as(int person, int kind) {
        Moor moor = now.moor;
        if (!moor.isOne(person) || kind < 0 || kind >= KINDS) {
            return fail(BEYOND);
        }
        if (!isUnder(moor.kind[person], kind)) {
            return fail(UNLIKE);
        }
        return moor.number[person];
    }

    public int gate(int one, int other, int heavy) {
        if (!areTwoFields(one, other) || heavy < 0 || heavy > MOST_HEAVY) {
            return fail(BEYOND);
        }
        if (now.moor.gates >= MOST_GATES) {
            return fail(FULL);
        }
        return now.moor.addGate(one, other, heavy);
    }

    public int gateIs(int gate, int what) {
        Moor moor = now.moor;
        if (!moor.isGate(gate) || what < 0 || what > 3) {
            return fail(BEYOND);
        }
        switch (what) {
            case 0:
                return moor.one[gate];
            case 1:
                return moor.other[gate];
            case 2:
                return moor.heavy[gate];
            default:
                return moor.holder[gate];
        }
    }

    public int hold(int gate, int person) {
        Moor moor = now.moor;
        if (!moor.isGate(gate) || !moor.isHolder(person)) {
            return fail(BEYOND);
        }
        int was = moor.holder[gate];
        moor.holder[gate] = person;
        return was;
    }

    public int pass(int from, int to) {
        Moor moor = now.moor;
        if (!moor.isOne(from) || !moor.isOne(to) || from == to) {
            return fail(BEYOND);
        }
        return moor.handOver(from, to);
    }

    public int stock(int field) {
        if (!isField(field)) {
            return fail(BEYOND);
        }
        if (now.moor.beasts >= MOST_STOCK) {
            return fail(FULL);
        }
        return now.moor.addBeast(field);
    }

    public int stockAt(int beast) {
        if (beast < 0 || beast >= now.moor.beasts) {
            return fail(BEYOND);
        }
        return now.moor.at[beast];
    }

    public int grass(int field, int v) {
        if (!isField(field) || v < 0 || v > MOST_GRASS) {
            return fail(BEYOND);
        }
        int was = now.moor.grass[field];
        now.moor.grass[field] = v;
        return was;
    }

    // ---- texts

    public int feed(long word, int n) {
        if (n < 1 || n > 8) {
            return fail(BEYOND);
        }
        if (now.tape.size + n > MOST_TAPE) {
            return fail(FULL);
        }
        now.tape.append(word, n);
        return now.tape.size;
    }

    public int text(int use) {
        if (!isUse(use)) {
            return fail(BEYOND);
        }
        int fault = reader.readInto(now.tape, now.lawOf(use));
        now.tape.size = 0;
        return fault < 0 ? 1 : -10 - fault;
    }

    public int untell(int use) {
        if (!isUse(use)) {
            return fail(BEYOND);
        }
        Law law = now.lawOf(use);
        int was = law.isTold() ? 1 : 0;
        law.size = 0;
        return was;
    }

    public int law(int use, int a, int b, int c) {
        if (!isUse(use)) {
            return fail(BEYOND);
        }
        return now.lawOf(use).gives(a, b, c);
    }

    // ---- hours

    public int hours(int n) {
        if (n < 1 || n > 60) {
            return fail(BEYOND);
        }
        if (now.moor.hour + n > MOST_HOUR) {
            return fail(STATE);
        }
        for (int i = 0; i < n; i++) {
            now.moor.anHour();
        }
        return now.moor.openGates();
    }

    public int loose(int n) {
        if (n < 1 || n > 30) {
            return fail(BEYOND);
        }
        if (now.moor.hour + n > MOST_HOUR) {
            return fail(STATE);
        }
        for (int i = 0; i < n; i++) {
            now.shuffle();
            now.moor.anHour();
        }
        return now.moor.openGates();
    }

    public int hour(int v) {
        if (v < 0 || v > MOST_HOUR) {
            return fail(BEYOND);
        }
        int was = now.moor.hour;
        now.moor.hour = v;
        return was;
    }

    public int seed(int v) {
        int was = now.z;
        now.z = v;
        return was;
    }

    // ---- what is, what would be

    public int then(int n, int what) {
        if (n < 0 || n > FAR || what < 0 || what > 1) {
            return fail(BEYOND);
        }
        thought.copyOf(now.moor);
        for (int i = 0; i < n; i++) {
            thought.anHour();
        }
        return what == 0 ? thought.openGates() : thought.strays;
    }

    public int first(int gate) {
        if (!now.moor.isGate(gate)) {
            return fail(BEYOND);
        }
        thought.copyOf(now.moor);
        for (int n = 0; n <= FAR; n++) {
            if (thought.holder[gate] == NOBODY) {
                return n;
            }
            thought.anHour();
        }
        return fail(NONE);
    }

    public int fewest() {
        int few = parting.fewestFor(now.moor);
        return few < 0 ? fail(NONE) : few;
    }

    public int way(int from, int to) {
        if (!isField(from) || !isField(to)) {
            return fail(BEYOND);
        }
        int steps = now.moor.steps(from, to);
        return steps < 0 ? fail(NONE) : steps;
    }

    public int cut(int from, int to, int what) {
        if (!areTwoFields(from, to) || what < 0 || what > 1) {
            return fail(BEYOND);
        }
        int set = now.moor.leastCut(from, to);
        return what == 0 ? Integer.bitCount(set) : set;
    }

    public int roams(int field) {
        if (!isField(field)) {
            return fail(BEYOND);
        }
        return now.moor.reached(field, now.moor.openGates());
    }

    public int odds(int field, int part) {
        if (!isField(field) || part < 0 || part > 1) {
            return fail(BEYOND);
        }
        int all = now.moor.gates;
        if (all <= 0) {
            return fail(STATE);
        }
        int some = now.moor.gatesThatMatter(field);
        int common = commonDivisor(some, all);
        int whole = part == 0 ? some : all;
        return common > 1 ? whole / common : whole;
    }

    public int fits(int sheet) {
        if (!isSheet(sheet)) {
            return fail(BEYOND);
        }
        Sheet told = sheets[sheet];
        if (told.isMissing()) {
            return fail(NONE);
        }
        thought.copyOf(now.moor);
        for (int n = 0; n <= FAR; n++) {
            if (told.tellsHolders(thought)) {
                return n;
            }
            thought.anHour();
        }
        return fail(NONE);
    }

    // ---- voices, sheets, images, what is told

    public int voice(int person, int voice, int x) {
        Moor moor = now.moor;
        if (!moor.isOne(person) || voice < 0 || voice >= VOICES) {
            return fail(BEYOND);
        }
        int answer = speech.speak(moor.kind[person], person, moor.number[person], voice, x);
        return speech.parted ? fail(PARTED) : answer;
    }

    public int body(int i) {
        if (i < 0 || i >= speech.traced) {
            return fail(NONE);
        }
        return speech.trace[i];
    }

    public int sheet(int sheet, int bits, int n) {
        if (!isSheet(sheet) || !isWidth(bits)) {
            return fail(BEYOND);
        }
        if (bits == 0) {
            sheets[sheet].begin(0, 0);
            return 1;
        }
        if (n < 0) {
            return fail(STATE);
        }
        if (n > MOST_NUMBERS) {
            return fail(BEYOND);
        }
        sheets[sheet].begin(bits, n);
        return 1;
    }

    public int put(int sheet, int i, int v) {
        if (!isSheet(sheet)) {
            return fail(BEYOND);
        }
        Sheet on = sheets[sheet];
        if (on.isMissing()) {
            return fail(NONE);
        }
        if (i < 0 || i >= on.size) {
            return fail(BEYOND);
        }
        on.numbers[i] = on.lowest(v);
        return 1;
    }

    public int move(int sheet, int i, int other, int j, int n) {
        if (!isSheet(sheet) || !isSheet(other)) {
            return fail(BEYOND);
        }
        Sheet from = sheets[sheet];
        Sheet to = sheets[other];
        if (from.isMissing() || to.isMissing()) {
            return fail(NONE);
        }
        if (from.bits != to.bits) {
            return fail(UNLIKE);
        }
        if (!from.hasPart(i, n) || !to.hasPart(j, n)) {
            return fail(BEYOND);
        }
        System.arraycopy(from.numbers, i, to.numbers, j, n);
        return n;
    }

    public int holds(int sheet) {
        if (!isSheet(sheet)) {
            return fail(BEYOND);
        }
        if (sheets[sheet].isMissing()) {
            return fail(NONE);
        }
        return sheets[sheet].giveHolders(now.moor);
    }

    public int judge(int sheet) {
        if (!isSheet(sheet)) {
            return fail(BEYOND);
        }
        if (sheets[sheet].isMissing()) {
            return fail(NONE);
        }
        return sheets[sheet].rightGrass(now.moor);
    }

    public int image() {
        kept.copyOf(now);
        images++;
        return images;
    }

    public int restore() {
        if (images == 0) {
            return fail(NONE);
        }
        now.copyOf(kept);
        return now.moor.hour;
    }

    public int tell(int v) {
        if (now.waits >= MOST_WAITING) {
            return fail(FULL);
        }
        now.waiting[now.waits] = v;
        now.waits++;
        return now.waits;
    }

    public int check() {
        int wrong = now.firstWrongLoad();
        now.waits = 0;
        return wrong + 1;
    }

    public int count(int what) {
        Moor moor = now.moor;
        switch (what) {
            case 0:
                return moor.people;
            case 1:
                return moor.gates;
            case 2:
                return moor.beasts;
            case 3:
                return moor.hour;
            case 4:
                return moor.strays;
            case 5:
                return moor.openGates();
            case 6:
                return now.tape.size;
            case 7:
                return now.waits;
            case 8:
                return speech.traced;
            case 9:
                return now.z;
            default:
                return fail(BEYOND);
        }
    }

    public int told(int k) {
        if (k < BEYOND || k > PARTED) {
            return fail(BEYOND);
        }
        return errors[k];
    }

    private int fail(int k) {
        if (k >= 0 && k < errors.length) {
            errors[k]++;
        }
        return LOW - k;
    }

    private static boolean isKindAndNumber(int km) {
        return km >= 0 && km < KINDS * 10;
    }

    private static boolean isUnder(int kind, int above) {
        int k = kind;
        for (int level = 0; level < KINDS && k >= 0 && k < KINDS; level++) {
            if (k == above) {
                return true;
            }
            k = KIND_ABOVE[k];
        }
        return false;
    }

    private static boolean isField(int field) {
        return field >= 0 && field < FIELDS;
    }

    private static boolean areTwoFields(int one, int other) {
        return isField(one) && isField(other) && one != other;
    }

    private static boolean isUse(int use) {
        return use >= 0 && use < USES;
    }

    private static boolean isSheet(int sheet) {
        return sheet >= 0 && sheet < SHEETS;
    }

    private static boolean isWidth(int bits) {
        return bits == 0 || bits == 8 || bits == 16 || bits == 32;
    }

    /** Plain trial is enough: neither number is above MOST_GATES. */
    private static int commonDivisor(int some, int all) {
        for (int d = all; d > 1; d--) {
            if (some % d == 0 && all % d == 0) {
                return d;
            }
        }
        return 1;
    }

    /** All that an image keeps. */
    private static final class Keep {
        final Law weighing;
        final Law drawing;
        final Moor moor;
        final Tape tape;
        final int[] waiting;
        int waits;
        int z;

        Keep() {
            weighing = new Law("whg", 19);
            drawing = new Law("gfd", 99);
            moor = new Moor(weighing, drawing);
            tape = new Tape();
            waiting = new int[MOST_WAITING];
            waits = 0;
            z = 1;
        }

        void copyOf(Keep from) {
            weighing.copyOf(from.weighing);
            drawing.copyOf(from.drawing);
            moor.copyOf(from.moor);
            tape.copyOf(from.tape);
            System.arraycopy(from.waiting, 0, waiting, 0, MOST_WAITING);
            waits = from.waits;
            z = from.z;
        }

        Law lawOf(int use) {
            return use == 0 ? weighing : drawing;
        }

        /** What comes ahead of an hour by draws. */
        void shuffle() {
            int people = moor.people;
            int gates = moor.gates;
            if (people <= 0 || gates <= 0) {
                return;
            }
            int gate = nextDraw() % gates;
            int one = nextDraw() % people;
            boolean dropped = nextDraw() % 4 == 0;
            if (moor.isGate(gate)) {
                moor.holder[gate] = dropped ? NOBODY : one;
            }
        }

        private int nextDraw() {
            z = z * 1103515245 + 12345;
            return z >>> 8;
        }

        /** The place of the first waiting number that is no load, or -1. */
        int firstWrongLoad() {
            for (int i = 0; i < waits && i < waiting.length; i++) {
                if (!moor.isOne(i) || waiting[i] != moor.load(i)) {
                    return i;
                }
            }
            return -1;
        }
    }

    /** People, gates, stock and grass, as they are or as somebody thinks them. */
    private static final class Moor {
        final Law weighing;
        final Law drawing;
        final int[] kind;
        final int[] number;
        final int[] one;
        final int[] other;
        final int[] heavy;
        final int[] holder;
        final int[] at;
        final int[] grass;
        int people;
        int gates;
        int beasts;
        int hour;
        int strays;

        Moor(Law weighing, Law drawing) {
            this.weighing = weighing;
            this.drawing = drawing;
            kind = new int[MOST_PEOPLE];
            number = new int[MOST_PEOPLE];
            one = new int[MOST_GATES];
            other = new int[MOST_GATES];
            heavy = new int[MOST_GATES];
            holder = new int[MOST_GATES];
            at = new int[MOST_STOCK];
            grass = new int[FIELDS];
            for (int f = 0; f < FIELDS; f++) {
                grass[f] = 20;
            }
        }

        /** Takes over everything but the laws, whose owner copies them. */
        void copyOf(Moor from) {
            System.arraycopy(from.kind, 0, kind, 0, MOST_PEOPLE);
            System.arraycopy(from.number, 0, number, 0, MOST_PEOPLE);
            System.arraycopy(from.one, 0, one, 0, MOST_GATES);
            System.arraycopy(from.other, 0, other, 0, MOST_GATES);
            System.arraycopy(from.heavy, 0, heavy, 0, MOST_GATES);
            System.arraycopy(from.holder, 0, holder, 0, MOST_GATES);
            System.arraycopy(from.at, 0, at, 0, MOST_STOCK);
            System.arraycopy(from.grass, 0, grass, 0, FIELDS);
            people = from.people;
            gates = from.gates;
            beasts = from.beasts;
            hour = from.hour;
            strays = from.strays;
        }

        boolean isOne(int p) {
            return p >= 0 && p < people && p < MOST_PEOPLE;
        }

        boolean isHolder(int p) {
            return p == NOBODY || isOne(p);
        }

        boolean isGate(int g) {
            return g >= 0 && g < gates && g < MOST_GATES;
        }

        int addOne(int itsKind, int itsNumber) {
            if (people >= MOST_PEOPLE) {
                return NOBODY;
            }
            kind[people] = itsKind;
            number[people] = itsNumber;
            people++;
            return people - 1;
        }

        int addGate(int from, int to, int itsHeavy) {
            if (gates >= MOST_GATES) {
                return NOBODY;
            }
            one[gates] = from;
            other[gates] = to;
            heavy[gates] = itsHeavy;
            holder[gates] = NOBODY;
            gates++;
            return gates - 1;
        }

        int addBeast(int field) {
            if (beasts >= MOST_STOCK) {
                return NOBODY;
            }
            at[beasts] = field;
            beasts++;
            return beasts - 1;
        }

        int openGates() {
            int set = 0;
            for (int g = 0; g < gates; g++) {
                if (holder[g] == NOBODY) {
                    set |= 1 << g;
                }
            }
            return set;
        }

        int heldBy(int p) {
            int held = 0;
            for (int g = 0; g < gates; g++) {
                if (holder[g] == p) {
                    held++;
                }
            }
            return held;
        }

        int handOver(int from, int to) {
            int passed = 0;
            for (int g = 0; g < gates; g++) {
                if (holder[g] == from) {
                    holder[g] = to;
                    passed++;
                }
            }
            return passed;
        }

        int room(int p) {
            if (!isOne(p)) {
                return 0;
            }
            int man = 10 + number[p];
            switch (kind[p]) {
                case LOVER:
                    return man / 2;
                case THINKER:
                    return 3 * man;
                case BOY:
                    return man - hour % 6;
                case GROOM:
                    return man / 2 + heldBy(p);
                case AMOS:
                    return 3 * man + 5;
                case GUEST:
                    return hour % DAY < 12 ? 0 : man;
                default:
                    return man;
            }
        }

        private int cost(int p, int g) {
            int man = heavy[g];
            switch (kind[p]) {
                case LOVER:
                    return man + 1;
                case THINKER:
                    return 2 * man;
                case GROOM:
                    return man + 1 - man / 2;
                case AMOS:
                    return holder[g] == NOBODY ? 0 : 2 * man;
                case GUEST:
                    return man + g % 3;
                default:
                    return man;
            }
        }

        int weight(int p, int g) {
            if (!isOne(p) || !isGate(g)) {
                return 0;
            }
            return weighing.gives(cost(p, g), hour % DAY, g);
        }

        int load(int p) {
            int load = 0;
            for (int g = 0; g < gates; g++) {
                if (holder[g] == p) {
                    load += weight(p, g);
                }
            }
            return load;
        }

        private int draw(int field) {
            if (!isField(field)) {
                return 0;
            }
            return drawing.gives(grass[field], field, hour % DAY);
        }

        void anHour() {
            for (int p = 0; p < people; p++) {
                if (load(p) > room(p)) {
                    letGo(p);
                }
            }
            for (int b = 0; b < beasts; b++) {
                graze(b);
            }
            hour++;
        }

        private void letGo(int p) {
            int heaviest = NOBODY;
            int most = -1;
            for (int g = 0; g < gates; g++) {
                int w = holder[g] == p ? weight(p, g) : -1;
                if (w > most) {
                    most = w;
                    heaviest = g;
                }
            }
            if (isGate(heaviest)) {
                holder[heaviest] = NOBODY;
            }
        }

        private void graze(int b) {
            int from = at[b];
            int to = from;
            int most = draw(from);
            for (int g = 0; g < gates; g++) {
                int beyond = holder[g] == NOBODY ? across(g, from) : -1;
                int w = isField(beyond) ? draw(beyond) : -1;
                if (w > most) {
                    most = w;
                    to = beyond;
                }
            }
            if (to != from) {
                strays = Math.min(strays + 1, MOST_STRAYS);
            }
            at[b] = to;
            if (isField(to)) {
                grass[to] = Math.max(grass[to] - 1, 0);
            }
        }

        /** The field on the far side of a gate at a field, or -1 if the gate isn't at it. */
        private int across(int g, int field) {
            if (one[g] == field) {
                return other[g];
            }
            return other[g] == field ? one[g] : -1;
        }

        /** The fields of a set, and those one gate further, by the gates of another set. */
        private int further(int fields, int through) {
            int more = fields;
            for (int g = 0; g < gates; g++) {
                int both = 1 << one[g] | 1 << other[g];
                if ((through & 1 << g) != 0 && (fields & both) != 0) {
                    more |= both;
                }
            }
            return more;
        }

        int reached(int field, int through) {
            int fields = 1 << field;
            for (int round = 1; round < FIELDS; round++) {
                int more = further(fields, through);
                if (more == fields) {
                    return fields;
                }
                fields = more;
            }
            return fields;
        }

        /** By how few gates, open or not, one comes from a field to a field, or -1. */
        int steps(int from, int to) {
            int fields = 1 << from;
            for (int n = 0; n < FIELDS; n++) {
                if ((fields & 1 << to) != 0) {
                    return n;
                }
                fields = further(fields, -1);
            }
            return -1;
        }

        int leastCut(int from, int to) {
            int all = (1 << gates) - 1;
            int best = all;
            for (int set = 0; set <= all; set++) {
                // sets come from the least on, so one that is no smaller never replaces one ahead
                boolean smaller = Integer.bitCount(set) < Integer.bitCount(best);
                if (smaller && (reached(from, all & ~set) & 1 << to) == 0) {
                    best = set;
                }
            }
            return best;
        }

        int gatesThatMatter(int field) {
            int open = openGates();
            int roamed = reached(field, open);
            int matter = 0;
            for (int g = 0; g < gates; g++) {
                if (reached(field, open | 1 << g) != roamed) {
                    matter++;
                }
            }
            return matter;
        }
    }

    /** By how few people all gates could be held. */
    private static final class Parting {
        private static final int TOO_MANY = MOST_PEOPLE + 1;
        private final int[] loads;
        private final int[] few;

        Parting() {
            loads = new int[1 << MOST_GATES];
            few = new int[1 << MOST_GATES];
        }

        /** The fewest people, or -1 if all of them are not enough. */
        int fewestFor(Moor moor) {
            if (moor.gates < 0 || moor.gates > MOST_GATES) {
                return -1;
            }
            int sets = 1 << moor.gates;
            few[0] = 0;
            for (int set = 1; set < sets; set++) {
                few[set] = TOO_MANY;
            }
            for (int p = 0; p < moor.people; p++) {
                weighSets(moor, p, sets);
                letOneHold(moor.room(p), sets);
            }
            int answer = few[sets - 1];
            return answer < TOO_MANY ? answer : -1;
        }

        private void weighSets(Moor moor, int p, int sets) {
            loads[0] = 0;
            for (int g = 0; g < moor.gates; g++) {
                int weight = moor.weight(p, g);
                int bit = 1 << g;
                for (int rest = 0; rest < bit && (bit | rest) < sets; rest++) {
                    loads[bit | rest] = loads[rest] + weight;
                }
            }
        }

        /** Lets one more hold any part; the largest sets come first, so that he is used once. */
        private void letOneHold(int room, int sets) {
            for (int set = sets - 1; set > 0; set--) {
                for (int part = set; part > 0; part = (part - 1) & set) {
                    if (loads[part] <= room) {
                        few[set] = Math.min(few[set], few[set ^ part] + 1);
                    }
                }
            }
        }
    }

    /** The bytes that have been fed and not yet read. */
    private static final class Tape {
        final byte[] bytes;
        int size;

        Tape() {
            bytes = new byte[MOST_TAPE];
            size = 0;
        }

        void copyOf(Tape from) {
            System.arraycopy(from.bytes, 0, bytes, 0, MOST_TAPE);
            size = from.size;
        }

        void append(long word, int n) {
            for (int i = 0; i < n && size < bytes.length; i++) {
                bytes[size] = (byte) (word >>> 8 * i);
                size++;
            }
        }
    }

    /** A text as it was read: its numbers, names and signs, each sign behind what it works on. */
    private static final class Law {
        private static final int LAST_NAME = -3;
        final String names;
        private final int most;
        private final int[] code;
        private final int[] stack;
        int size;

        Law(String names, int most) {
            this.names = names;
            this.most = most;
            code = new int[MOST_TAPE];
            stack = new int[MOST_TAPE];
            size = 0;
        }

        void copyOf(Law from) {
            take(from.code, from.size);
        }

        void take(int[] words, int n) {
            if (n < 0 || n > code.length || n > words.length) {
                return;
            }
            System.arraycopy(words, 0, code, 0, n);
            size = n;
        }

        boolean isTold() {
            return size > 0;
        }

        int gives(int a, int b, int c) {
            int v = isTold() ? workedOut(a, b, c) : a;
            return Math.max(0, Math.min(most, v));
        }

        private int workedOut(int a, int b, int c) {
            int top = 0;
            for (int i = 0; i < size && i < code.length; i++) {
                int word = code[i];
                if (word >= LAST_NAME && top < stack.length) {
                    stack[top] = meant(word, a, b, c);
                    top++;
                } else if (word == -'!' && top > 0) {
                    stack[top - 1] = stack[top - 1] == 0 ? 1 : 0;
                } else if (top > 1) {
                    top--;
                    stack[top - 1] = joined(-word, stack[top - 1], stack[top]);
                }
            }
            return stack[0];
        }

        private static int meant(int word, int a, int b, int c) {
            switch (word) {
                case -1:
                    return a;
                case -2:
                    return b;
                case -3:
                    return c;
                default:
                    return word;
            }
        }

        private static int joined(int sign, int left, int right) {
            switch (sign) {
                case '|':
                    return left != 0 || right != 0 ? 1 : 0;
                case '&':
                    return left != 0 && right != 0 ? 1 : 0;
                case '<':
                    return left < right ? 1 : 0;
                case '=':
                    return left == right ? 1 : 0;
                case '>':
                    return left > right ? 1 : 0;
                case '+':
                    return left + right;
                case '-':
                    return left - right;
                case '*':
                    return left * right;
                case '/':
                    return right == 0 ? 0 : left / right;
                case '%':
                    return right == 0 ? 0 : left % right;
                default:
                    return 0;
            }
        }
    }

    /** Reads a tape as a text, a method for each letter of the grammar. */
    private static final class Reader {
        private final int[] words;
        private Tape tape;
        private String names;
        private int size;
        private int place;
        private int fault;

        Reader() {
            words = new int[MOST_TAPE];
            tape = new Tape();
            names = "";
        }

        /** Makes a law of the tape and answers -1; or leaves it as it is and answers the fault. */
        int readInto(Tape from, Law law) {
            tape = from;
            names = law.names;
            size = 0;
            place = 0;
            fault = -1;
            readEither(0);
            if (place < tape.size) {
                miss();
            }
            if (fault < 0) {
                law.take(words, size);
            }
            return fault;
        }

        private void miss() {
            if (fault < 0) {
                fault = place;
            }
        }

        /** The byte that comes next, or -1 at the end and behind a fault. */
        private int next() {
            if (fault >= 0 || place < 0 || place >= tape.size || place >= tape.bytes.length) {
                return -1;
            }
            return tape.bytes[place] & 255;
        }

        private void write(int word) {
            if (fault < 0 && size < words.length) {
                words[size] = word;
                size++;
            }
        }

        /** T of the grammar. */
        private void readEither(int open) {
            readBoth(open);
            for (int n = 0; n < MOST_TAPE && next() == '|'; n++) {
                place++;
                readBoth(open);
                write(-'|');
            }
        }

        /** A of the grammar. */
        private void readBoth(int open) {
            readCompared(open);
            for (int n = 0; n < MOST_TAPE && next() == '&'; n++) {
                place++;
                readCompared(open);
                write(-'&');
            }
        }

        /** B of the grammar. */
        private void readCompared(int open) {
            readSum(open);
            int sign = next();
            if (sign == '<' || sign == '=' || sign == '>') {
                place++;
                readSum(open);
                write(-sign);
            }
        }

        /** S of the grammar. */
        private void readSum(int open) {
            readProduct(open);
            int sign = next();
            for (int n = 0; n < MOST_TAPE && (sign == '+' || sign == '-'); n++) {
                place++;
                readProduct(open);
                write(-sign);
                sign = next();
            }
        }

        /** P of the grammar. */
        private void readProduct(int open) {
            readPart(open);
            int sign = next();
            for (int n = 0; n < MOST_TAPE && (sign == '*' || sign == '/' || sign == '%'); n++) {
                place++;
                readPart(open);
                write(-sign);
                sign = next();
            }
        }

        /** Q of the grammar; open counts the signs ! and ( that stand open ahead of it. */
        private void readPart(int open) {
            int sign = next();
            boolean deeper = open < MOST_OPEN_SIGNS;
            if (isDigit(sign)) {
                readNumber();
            } else if (sign == '!' && deeper) {
                place++;
                readPart(open + 1);
                write(-'!');
            } else if (sign == '(' && deeper) {
                place++;
                readEither(open + 1);
                readClosing();
            } else {
                readName(sign);
            }
        }

        private void readClosing() {
            if (next() == ')') {
                place++;
            } else {
                miss();
            }
        }

        private void readName(int sign) {
            int name = sign < 0 ? -1 : names.indexOf((char) sign);
            if (name < 0) {
                miss();
            } else {
                place++;
                write(-1 - name);
            }
        }

        private void readNumber() {
            int v = 0;
            for (int n = 0; n < MOST_DIGITS && isDigit(next()); n++) {
                v = v * 10 + next() - '0';
                place++;
            }
            write(v);
        }

        private static boolean isDigit(int sign) {
            return sign >= '0' && sign <= '9';
        }
    }

    /** One of the people speaking, and which bodies that went through. */
    private static final class Speech {
        /** By kinds, in each by voices: the number of a body, or 0. */
        private static final int[] BODIES = {
            10, 11, 12, 13,
            20, 0, 0, 21,
            0, 30, 0, 0,
            0, 0, 40, 0,
            50, 0, 51, 0,
            0, 60, 0, 0,
            70, 71, 0, 0
        };
        final int[] trace;
        int traced;
        boolean parted;
        private int kind;
        private int k;
        private int m;

        Speech() {
            trace = new int[MOST_TRACE];
        }

        /** What a voice answers; the trace becomes its own, up to where it parted, if it did. */
        int speak(int itsKind, int itsPlace, int itsNumber, int voice, int x) {
            kind = itsKind;
            k = itsPlace;
            m = itsNumber;
            traced = 0;
            parted = false;
            return own(voice, x, 0);
        }

        private int own(int voice, int x, int depth) {
            return from(kind, voice, x, depth);
        }

        /** The voice of the first kind that has a body for it, from a kind upwards. */
        private int from(int lowest, int voice, int x, int depth) {
            int at = lowest;
            for (int level = 0; level < KINDS && at >= 0 && at < KINDS; level++) {
                int place = at * VOICES + voice;
                if (place >= 0 && place < BODIES.length && BODIES[place] != 0) {
                    return work(BODIES[place], KIND_ABOVE[at], x, depth);
                }
                at = KIND_ABOVE[at];
            }
            return 0;
        }

        private int work(int body, int above, int x, int depth) {
            // behind a PARTED nothing is worked out any more, so no body begins
            if (parted || depth >= DEEPEST_VOICE) {
                return 0;
            }
            if (traced < trace.length) {
                trace[traced] = body;
                traced++;
            }
            int d = depth + 1;
            switch (body) {
                case 10:
                    return x + k;
                case 11:
                    return own(NODS, x, d) * 2;
                case 12:
                    return own(MINDS, x, d) - m;
                case 13:
                    return divided(x);
                case 20:
                    return from(above, NODS, x, d) - 4;
                case 21:
                    return from(above, PARTS, x, d) + own(MINDS, 1, d);
                case 30:
                    return 0 - from(above, MINDS, x, d);
                case 40:
                    return from(above, WHISTLES, x / 2, d);
                case 50:
                    return from(above, NODS, x, d) * 3;
                case 51:
                    return from(above, WHISTLES, x, d) ^ k;
                case 60:
                    return from(above, MINDS, x + 1, d);
                case 70:
                    return 9;
                case 71:
                    return from(above, MINDS, x, d) + m;
                default:
                    return 0;
            }
        }

        private int divided(int x) {
            int by = m - k;
            if (by == 0) {
                parted = true;
                return 0;
            }
            return x / by;
        }
    }

    /** A row of numbers of so many bits, or none. */
    private static final class Sheet {
        final int[] numbers;
        int bits;
        int size;

        Sheet() {
            numbers = new int[MOST_NUMBERS];
            bits = 0;
            size = 0;
        }

        void begin(int itsBits, int n) {
            bits = itsBits;
            size = n;
            for (int i = 0; i < MOST_NUMBERS; i++) {
                numbers[i] = 0;
            }
        }

        boolean isMissing() {
            return bits == 0;
        }

        int lowest(int v) {
            if (bits == 8) {
                return (byte) v;
            }
            return bits == 16 ? (short) v : v;
        }

        boolean hasPart(int i, int n) {
            return i >= 0 && n >= 0 && n <= size && i <= size - n;
        }

        boolean tellsHolders(Moor moor) {
            for (int g = 0; g < size && g < numbers.length; g++) {
                if (!moor.isGate(g) || moor.holder[g] != numbers[g]) {
                    return false;
                }
            }
            return true;
        }

        int giveHolders(Moor moor) {
            for (int g = 0; g < size && g < numbers.length; g++) {
                if (!moor.isGate(g) || !moor.isHolder(numbers[g])) {
                    return g;
                }
                moor.holder[g] = numbers[g];
            }
            return size;
        }

        int rightGrass(Moor moor) {
            for (int f = 0; f < size && f < numbers.length; f++) {
                if (!isField(f) || numbers[f] != moor.grass[f]) {
                    return f;
                }
            }
            return size;
        }
    }
}
