/** What the tests by hand have in common: answers held against what is due, and objects made ready. */
class Checks {
    static final int BEYOND = -1000000001;
    static final int NONE = -1000000002;
    static final int STATE = -1000000003;
    static final int FULL = -1000000004;
    static final int KIND = -1000000005;
    static final int PARTED = -1000000006;
    static final int MIN = Integer.MIN_VALUE;
    static final int MAX = Integer.MAX_VALUE;

    private static String about = "";
    private static int wrong = 0;
    private static int asked = 0;

    /** What the answers from here on are about: it is printed with each that is not the due one. */
    static void about(String what) {
        about = what;
    }

    static void due(int want, int... got) {
        for (int i = 0; i < got.length; i++) {
            asked++;
            if (got[i] != want) {
                wrong++;
                StackTraceElement at = new Throwable().getStackTrace()[1];
                System.out.println(about + ", line " + at.getLineNumber() + ", answer " + i + ": " + got[i] + ", due is " + want);
            }
        }
    }

    static void end() {
        System.out.println(wrong == 0 ? asked + " answers are as due" : wrong + " of " + asked + " answers are not as due");
        if (wrong != 0) System.exit(1);
    }

    static int feed(GateMinds x, String t) {
        int n = 0;
        for (int at = 0; at < t.length(); at += 8) {
            long word = 0;
            int end = Math.min(t.length(), at + 8);
            for (int i = at; i < end; i++) word |= (long) (t.charAt(i) & 255) << 8 * (i - at);
            n = x.feed(word, end - at);
        }
        return n;
    }

    static int text(GateMinds x, int use, String t) {
        feed(x, t);
        return x.text(use);
    }

    /** People of the kinds and m told, all at once. */
    static GateMinds people(int... kms) {
        GateMinds x = new GateMinds();
        for (int km : kms) x.person(km);
        return x;
    }

    /** What a text of DRAWS gives with g 7, f 3, d 20; or what text() answers, if it is none. */
    static int value(String t) {
        GateMinds x = new GateMinds();
        int read = text(x, 1, t);
        return read == 1 ? x.law(1, 7, 3, 20) : read;
    }

    /** Three gates held by a man for whom they are too heavy in the 12th hour of a day alone. */
    static GateMinds dailyGates() {
        GateMinds x = people(0);
        for (int g = 0; g < 3; g++) {
            x.gate(0, 1, 1);
            x.hold(g, 0);
        }
        text(x, 0, "19*(h=11)");
        return x;
    }

    /**
     * As many of all as there may be: six men of 10 of ROOM, GATES all round by 0, 1, .. 6 and the first two of them
     * once more, all OPEN and HEAVY 5, and six beasts.
     */
    static GateMinds full() {
        GateMinds x = people(0, 0, 0, 0, 0, 0);
        for (int g = 0; g < 9; g++) x.gate(g % 7, (g + 1) % 7, 5);
        for (int b = 0; b < 6; b++) x.stock(b);
        return x;
    }
}
