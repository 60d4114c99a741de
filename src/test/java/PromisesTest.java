/** For each promise of the document calls with answers worked out by hand. */
public final class PromisesTest {
    private static final int NONE = -1;
    private static int wrong = 0;

    private static void due(int promise, String what, long got, long want) {
        if (got != want) {
            wrong++;
            System.out.println("promise " + promise + ": " + what + " answered " + got + ", due is " + want);
        }
    }

    /** Puts a ROW of numbers into a SHELF. */
    private static void put(ThunderIsThePost x, int s, int sort, long... v) {
        due(2, "row", x.row(s, sort, v.length), 1);
        for (int i = 0; i < v.length; i++) {
            due(3, "set", x.set(s, i, v[i]), 1);
        }
    }

    private static void putText(ThunderIsThePost x, int s, String text) {
        long[] v = new long[text.length()];
        for (int i = 0; i < v.length; i++) {
            v[i] = text.charAt(i);
        }
        put(x, s, 0, v);
    }

    private static int tell(ThunderIsThePost x, String text) {
        putText(x, 7, text);
        return x.sky(7);
    }

    /** A new object over which texts were told. */
    private static ThunderIsThePost world(String... texts) {
        ThunderIsThePost x = new ThunderIsThePost();
        for (String text : texts) {
            if (tell(x, text) < 1) {
                due(16, "sky of " + text, x.fault(), NONE);
            }
        }
        return x;
    }

    /** Seven hills, one of each kind, number = kind. */
    private static final String KINDS = "hill 0 0;hill 1 3;hill 2 5;hill 3 4;hill 4 4;hill 5 7;hill 6 1";
    private static final String THREE = "hill 0 0;hill 0 0;hill 0 0";

    public static void main(String[] args) {
        newObject();
        shelves();
        hillsAndStorms();
        letters();
        hoursGoBy();
        wordsAndHeard();
        texts();
        faults();
        faultsOfRoom();
        whatComes();
        handedIn();
        waking();
        needed();
        reached();
        loud();
        nights();
        meets();
        burning();
        droughts();
        actsAndTraces();
        images();
        refusals();
        nothingChanges();
        looksFar();
        severalFree();
        otherEdges();
        allFull();
        System.out.println(wrong == 0 ? "all promises answer as due" : wrong + " answers are not as due");
        if (wrong != 0) {
            System.exit(1);
        }
    }

    private static void newObject() {
        ThunderIsThePost x = new ThunderIsThePost();
        int[] want = {0, 0, 0, 0, 0, 0, 20, 1, 0, 0, NONE, 0, 0, 0, 0, 0, 0, 0, NONE};
        for (int i = 0; i < want.length; i++) {
            due(1, "status(" + i + ")", x.status(i), want[i]);
        }
        due(40, "status(-1)", x.status(-1), NONE);
        due(40, "status(18)", x.status(18), NONE);
        due(1, "fault()", x.fault(), NONE);
        due(1, "holds(0)", x.holds(0), NONE);
        due(1, "postage()", x.postage(), 0);
        due(1, "trace(0)", x.trace(0), NONE);
        due(1, "NONE", ThunderIsThePost.NONE, -1);
    }

    private static void shelves() {
        ThunderIsThePost x = new ThunderIsThePost();
        due(2, "row(-1, 9, -1)", x.row(-1, 9, -1), -1);
        due(2, "row(8, 0, 1)", x.row(8, 0, 1), -1);
        due(2, "row(0, 9, -1)", x.row(0, 9, -1), -4);
        due(2, "row(0, -1, 200)", x.row(0, -1, 200), -6);
        due(2, "row(0, 4, 1)", x.row(0, 4, 1), -6);
        due(2, "row(0, 3, 161)", x.row(0, 3, 161), -7);
        due(2, "holds(0)", x.holds(0), NONE);
        due(2, "row(0, 3, 160)", x.row(0, 3, 160), 1);
        due(3, "set(0, 159, big)", x.set(0, 159, Long.MIN_VALUE + 5), 1);
        due(5, "element(0, 159)", x.element(0, 159), Long.MIN_VALUE + 5);
        due(3, "set(0, 160, 1)", x.set(0, 160, 1), -5);
        due(3, "set(0, -1, 1)", x.set(0, -1, 1), -5);
        due(2, "row again", x.row(0, 3, 160), 1);
        due(2, "elements are 0 at first", x.element(0, 159), 0);
        due(2, "row of none", x.row(1, 0, 0), 1);
        due(3, "set in it", x.set(1, 0, 1), -5);
        put(x, 1, 0, 0x1ff, 128, -129);
        due(3, "byte 0x1ff", x.element(1, 0), -1);
        due(3, "byte 128", x.element(1, 1), -128);
        due(3, "byte -129", x.element(1, 2), 127);
        put(x, 2, 1, 0x18000, 0x17fff);
        due(3, "short 0x18000", x.element(2, 0), -32768);
        due(3, "short 0x17fff", x.element(2, 1), 32767);
        put(x, 3, 2, 0x180000000L, 0x17fffffffL);
        due(3, "int 0x180000000", x.element(3, 0), Integer.MIN_VALUE);
        due(3, "int 0x17fffffff", x.element(3, 1), Integer.MAX_VALUE);
        due(7, "holds", x.holds(0) * 1000000L + x.holds(1) * 1000L + x.holds(2), 103100101L);
        due(7, "holds(3)", x.holds(3), 102);
        due(7, "holds(-1)", x.holds(-1), NONE);
        due(7, "holds(8)", x.holds(8), NONE);
        due(5, "element(-1, 0)", x.element(-1, 0), 0);
        due(5, "element(8, 0)", x.element(8, 0), 0);
        due(5, "element(1, 3)", x.element(1, 3), 0);
        due(5, "element(1, -1)", x.element(1, -1), 0);
        due(5, "element(6, 0)", x.element(6, 0), 0);
        due(3, "set(8, ..)", x.set(8, -1, 0), -1);
        due(3, "set(6, ..)", x.set(6, -1, 0), -3);
        due(6, "show(6, 0), no hill", x.show(6, 0), -1);
        due(6, "show(8, NONE)", x.show(8, NONE), -1);
        due(6, "show(-1, NONE)", x.show(-1, NONE), -1);
        x.hill(0, 0);
        x.hill(3, 1);
        due(6, "show(6, 1)", x.show(6, 1), 1);
        due(6, "show(6, 2)", x.show(6, 2), -1);
        due(6, "show(6, -2)", x.show(6, -2), -1);
        due(7, "holds(6)", x.holds(6), 1);
        due(5, "element of a hill", x.element(6, 0), 0);
        due(3, "set of a hill", x.set(6, -1, 0), -2);
        copies(x);
        due(6, "show(6, NONE)", x.show(6, NONE), 0);
        due(7, "holds(6)", x.holds(6), NONE);
        due(6, "show over a row", x.show(1, 0), 1);
        due(7, "holds(1)", x.holds(1), 0);
        due(2, "row over a hill", x.row(1, 2, 1), 1);
        due(7, "holds(1)", x.holds(1), 102);
    }

    /** SHELF 0 longs, 1 bytes, 2 shorts, 3 ints, 4 and 5 NOTHING, 6 a HILL. */
    private static void copies(ThunderIsThePost x) {
        due(4, "no shelf first", x.copy(6, 8, -1, -1, -1), -1);
        due(4, "no shelf second", x.copy(-1, 6, -1, -1, -1), -1);
        due(4, "a hill and nothing", x.copy(6, 4, -1, -1, -1), -2);
        due(4, "nothing and a hill", x.copy(4, 6, -1, -1, -1), -2);
        due(4, "two sorts", x.copy(1, 2, -1, -1, -1), -2);
        due(4, "a row and nothing", x.copy(1, 4, -1, -1, -1), -3);
        due(4, "nothing and a row", x.copy(4, 1, -1, -1, -1), -3);
        due(4, "nothing twice", x.copy(4, 5, -1, -1, -1), -3);
        put(x, 4, 1, 1, 2, 3, 4, 5);
        due(4, "n below 0", x.copy(4, 2, -1, 0, -1), -4);
        due(4, "i below 0", x.copy(4, 2, -1, 0, 0), -5);
        due(4, "j below 0", x.copy(4, 2, 0, -1, 0), -5);
        due(4, "end behind", x.copy(4, 2, 0, 0, 3), -5);
        due(4, "end behind of the first", x.copy(2, 4, 1, 0, 2), -5);
        due(4, "end beyond int", x.copy(4, 4, Integer.MAX_VALUE, 0, Integer.MAX_VALUE), -5);
        due(4, "none at the end", x.copy(4, 2, 5, 2, 0), 1);
        due(4, "none behind the end", x.copy(4, 2, 6, 0, 0), -5);
        due(4, "over itself on", x.copy(4, 4, 0, 1, 4), 1);
        due(4, "as they were", num(x, 4, 5), 11234);
        due(4, "over itself back", x.copy(4, 4, 1, 0, 4), 1);
        due(4, "as they were", num(x, 4, 5), 12344);
        due(4, "to another", x.copy(4, 2, 3, 0, 2), 1);
        due(4, "as they were", num(x, 2, 2), 44);
    }

    private static int num(ThunderIsThePost x, int s, int n) {
        int all = 0;
        for (int i = 0; i < n; i++) {
            all = all * 10 + (int) x.element(s, i);
        }
        return all;
    }

    private static void hillsAndStorms() {
        ThunderIsThePost x = new ThunderIsThePost();
        due(9, "hill(-1, 10)", x.hill(-1, 10), -1);
        due(9, "hill(7, 10)", x.hill(7, 10), -1);
        due(9, "hill(6, 10)", x.hill(6, 10), -6);
        due(9, "hill(0, -1)", x.hill(0, -1), -6);
        for (int i = 0; i < 8; i++) {
            due(9, "hill", x.hill(i % 7, i), i);
        }
        due(9, "a ninth", x.hill(0, 0), -7);
        due(9, "a ninth, wrong", x.hill(0, 10), -6);
        due(12, "kind", x.hillOf(5, 0), 5);
        due(12, "a", x.hillOf(7, 1), 7);
        due(12, "lying", x.hillOf(5, 2), 0);
        due(12, "no such", x.hillOf(8, 0), -5);
        due(12, "no such", x.hillOf(-1, 0), -5);
        due(12, "another what", x.hillOf(0, 4), -5);
        due(12, "another what", x.hillOf(0, -1), -5);
        storms(x);
    }

    private static void storms(ThunderIsThePost x) {
        due(10, "no shelf", x.storm(8, -1, 0, 0, 0), -1);
        due(10, "nothing", x.storm(0, -1, 0, 0, 0), -3);
        x.show(0, 1);
        due(10, "a hill", x.storm(0, -1, 0, 0, 0), -2);
        put(x, 0, 2, 1, 2, 1, 3, 1, 4, 1, 5);
        due(10, "n below 0", x.storm(0, -1, 0, 0, 0), -4);
        due(10, "fewer elements", x.storm(0, 9, 0, 0, 0), -5);
        due(10, "n 7", x.storm(0, 7, 1, 1, 1), -6);
        due(10, "n 1", x.storm(0, 1, 1, 1, 1), -6);
        due(10, "n 0", x.storm(0, 0, 1, 1, 1), -6);
        due(10, "pace 0", x.storm(0, 2, 0, 1, 1), -6);
        due(10, "pace 10", x.storm(0, 2, 10, 1, 1), -6);
        due(10, "force 0", x.storm(0, 2, 1, 0, 1), -6);
        due(10, "force 100", x.storm(0, 2, 1, 100, 1), -6);
        due(10, "room 0", x.storm(0, 2, 1, 1, 0), -6);
        due(10, "room 10", x.storm(0, 2, 1, 1, 10), -6);
        due(10, "last as the first", x.storm(0, 3, 1, 1, 1), -6);
        put(x, 1, 2, 1, 2, 1);
        due(10, "last as the first", x.storm(1, 3, 1, 1, 1), -6);
        put(x, 1, 2, 1, 1, 2);
        due(10, "two alike", x.storm(1, 3, 1, 1, 1), -6);
        put(x, 1, 2, 1, 8);
        due(10, "no such hill", x.storm(1, 2, 1, 1, 1), -6);
        put(x, 1, 2, 1, -1);
        due(10, "no such hill", x.storm(1, 2, 1, 1, 1), -6);
        due(10, "six of them", x.storm(0, 6, 9, 99, 9), 0);
        put(x, 1, 3, 7 + (1L << 32), 6);
        due(10, "longs by 32 bits", x.storm(1, 2, 1, 1, 1), 1);
        due(10, "a third", x.storm(0, 4, 2, 50, 3), 2);
        due(10, "a fourth", x.storm(0, 2, 1, 1, 1), 3);
        due(10, "a fifth", x.storm(0, 2, 1, 1, 1), -7);
        due(10, "a fifth, wrong", x.storm(0, 3, 1, 1, 1), -6);
        int[] what = {0, 1, 2, 3, 4, 5, 10, 11, 12, 13, 14, 15};
        int[] want = {1, 9, 99, 9, 0, 6, 1, 2, 1, 3, 1, 4};
        for (int i = 0; i < what.length; i++) {
            due(13, "stormOf(0, " + what[i] + ")", x.stormOf(0, what[i]), want[i]);
        }
        due(13, "of longs", x.stormOf(1, 10), 7);
        due(13, "hill not there", x.stormOf(2, 14), -5);
        due(13, "last hill there", x.stormOf(2, 13), 3);
        for (int bad : new int[] {-1, 6, 9, 16, Integer.MAX_VALUE, Integer.MIN_VALUE}) {
            due(13, "another what", x.stormOf(0, bad), -5);
        }
        due(13, "no such", x.stormOf(4, 0), -5);
        due(13, "no such", x.stormOf(-1, 0), -5);
        due(12, "storms at 1", x.hillOf(1, 3), 1 + 4 + 8);
        due(12, "storms at 7", x.hillOf(7, 3), 2);
        due(12, "storms at 2", x.hillOf(2, 3), 0);
    }

    private static void letters() {
        ThunderIsThePost x = world(THREE);
        due(11, "from none", x.letter(-1, 3, 0, 0), -1);
        due(11, "to none", x.letter(-1, 0, -1, 0), -1);
        due(11, "the same", x.letter(1, 1, 1, 1), -6);
        due(11, "word -1", x.letter(-1, 0, 1, 1), -6);
        due(11, "word 10000", x.letter(10000, 0, 1, 1), -6);
        due(11, "weight 0", x.letter(1, 0, 1, 0), -6);
        due(11, "weight 100", x.letter(1, 0, 1, 100), -6);
        for (int i = 0; i < 12; i++) {
            due(11, "letter", x.letter(i == 0 ? 9999 : i, i % 2, 2, i + 88), i);
        }
        due(11, "a thirteenth", x.letter(1, 0, 1, 1), -7);
        due(11, "a thirteenth, wrong", x.letter(1, 1, 1, 1), -6);
        int[] want = {9999, 0, 2, 88, 0, NONE};
        for (int i = 0; i < want.length; i++) {
            due(14, "letterOf(0, " + i + ")", x.letterOf(0, i), want[i]);
        }
        due(14, "another what", x.letterOf(0, 6), -5);
        due(14, "another what", x.letterOf(0, -1), -5);
        due(14, "no such", x.letterOf(12, 0), -5);
        due(14, "no such", x.letterOf(-1, 0), -5);
        due(12, "lying at 0", x.hillOf(0, 2), 0x555);
        due(12, "lying at 1", x.hillOf(1, 2), 0xaaa);
        x.show(0, 0);
        due(8, "says how many lie there", x.says(0, 0), 6);
    }

    /** A storm of pace 2, force 50, room 1 by 0, 1, 2; letters of 50, 51 (too heavy) and 50. */
    private static void hoursGoBy() {
        String text = THREE + ";storm 2 50 1 0 1 2;letter 11 0 2 50;letter 12 0 1 51;letter 13 0 1 50";
        ThunderIsThePost x = world(text);
        due(19, "arrives(0)", x.arrives(0), 10);
        due(19, "arrives(1)", x.arrives(1), NONE);
        due(19, "arrives(2)", x.arrives(2), 14);
        due(30, "postage", x.postage(), 10 * 50 + 500 * 51 + 14 * 50);
        due(31, "hours(0)", x.hours(0), -6);
        due(31, "hours(501)", x.hours(501), -6);
        due(31, "hours(1)", x.hours(1), 0);
        due(13, "not its turn", x.stormOf(0, 0), 0);
        due(31, "hours(5)", x.hours(5), 0);
        due(13, "at 0 again", x.stormOf(0, 0), 0);
        due(13, "took the first of two alike", x.stormOf(0, 4), 1);
        due(14, "in the storm", x.letterOf(0, 4), 100);
        due(12, "left", x.hillOf(0, 2), 6);
        due(31, "hours(2)", x.hours(2), 0);
        due(15, "heard", x.heard(1, 0), 11);
        due(14, "taken up again", x.letterOf(0, 4), 100);
        due(31, "hours(2)", x.hours(2), 1);
        due(14, "arrived", x.letterOf(0, 4), 200);
        due(14, "when", x.letterOf(0, 5), 10);
        due(19, "its hour", x.arrives(0), 10);
        due(30, "postage", x.postage(), 500 * 51 + 4 * 50);
        due(31, "hours(500)", x.hours(500), 1);
        due(40, "hour", x.status(5), 510);
        due(40, "arrived", x.status(3), 2);
        due(40, "letters", x.status(2), 3);
        due(14, "too heavy", x.letterOf(1, 4), 0);
        heaviestFirst();
        oneAfterTheOther();
    }

    private static void heaviestFirst() {
        ThunderIsThePost x = world(THREE + ";storm 1 99 2 1 0 1 2;letter 1 0 2 5;letter 2 0 2 7;letter 3 0 2 6;letter 4 0 2 7;hour 1");
        due(31, "the two heaviest", x.stormOf(0, 4), 2 + 8);
        x.hours(1);
        due(15, "said in order", x.heard(1, 0) * 10 + x.heard(1, 1), 24);
        due(15, "how many", x.heard(1, NONE), 2);
        due(12, "left", x.hillOf(0, 2), 1 + 4);
        ThunderIsThePost y = world(THREE + ";storm 1 99 1 0 1;storm 1 99 9 1 2;letter 1 0 2 5;letter 2 0 2 7;letter 3 1 2 6;hour 4");
        // hour 1: storm 0 at 1 takes letter 2; 2: at 0 says it, and takes letter 1, the heavier one
        due(31, "the heavier of those said and lying", y.stormOf(0, 4), 2);
    }

    /** What an earlier storm says in an hour, a later one takes up in that hour. */
    private static void oneAfterTheOther() {
        ThunderIsThePost x = world("hill 0 0;hill 0 0;hill 0 0;hill 0 0;storm 1 40 1 1 0;storm 1 99 9 2 0 3 0;letter 7 0 3 50;letter 8 0 3 40;hour 1");
        due(31, "taken by number", x.stormOf(0, 4), 2);
        due(31, "the rest by the next", x.stormOf(1, 4), 1);
        ThunderIsThePost y = world("hill 0 0;hill 0 0;hill 0 0;hill 0 0;storm 1 60 1 2 0;storm 1 99 9 3 0;letter 7 0 3 50;hour 2");
        due(31, "storm 0 keeps it", y.letterOf(0, 4), 100);
        y.letter(9, 2, 1, 60);
        y.hours(1);
        due(31, "storm 0 said it, could not keep both", y.letterOf(0, 4), 100);
        due(31, "the heavier one lies", y.letterOf(1, 4), 2);
        y.hours(1);
        due(31, "the heavier one is taken", y.letterOf(1, 4), 100);
        due(31, "the other lies", y.letterOf(0, 4), 2);
    }

    private static void wordsAndHeard() {
        ThunderIsThePost x = world(KINDS);
        int[] shown = {0, 2, 123, 6, 1, 130, 0};
        for (int kind = 0; kind < 7; kind++) {
            x.show(kind, kind);
            due(8, "says of kind " + kind, x.says(kind, kind), shown[kind]);
            due(8, "taken for a hill", x.says(kind, 0), 0);
        }
        due(8, "cave for echo", x.says(3, 1), 6);
        due(8, "valley for hollow", x.says(5, 2), 130);
        due(8, "roof for slate", x.says(6, 4), 0);
        due(8, "echo for cave", x.says(1, 3), -2);
        due(8, "cave for hollow", x.says(3, 2), -2);
        due(8, "slate for roof", x.says(4, 6), -2);
        due(8, "hill for echo", x.says(0, 1), -2);
        due(8, "a row", x.says(7, 0), -2);
        due(8, "a row, no kind", x.says(7, 7), -1);
        due(8, "no kind", x.says(0, -1), -1);
        due(8, "no shelf", x.says(8, 0), -1);
        x.show(0, NONE);
        due(8, "nothing", x.says(0, 0), -3);
        x.hill(4, 5);
        x.show(0, 7);
        due(8, "50 is not above 50", x.says(0, 4), 0);
        due(15, "no hill", x.heard(8, 0), -1);
        due(15, "no hill", x.heard(-1, NONE), -1);
        due(15, "none yet", x.heard(0, NONE), 0);
        due(15, "no such", x.heard(0, 0), -5);
        due(15, "no such", x.heard(0, -2), -5);
        // from 0 by each kind and back: 0 1 2 3 4 5, then by 6 with another storm
        tell(x, "storm 1 99 9 6 0 1 2 3 4;storm 1 99 9 4 5;letter 1234 0 6 40;letter 98 0 5 41;hour 1");
        x.hours(1);
        due(15, "echo twice", x.heard(1, NONE), 4);
        due(15, "echo in order", x.heard(1, 0) + 10000L * x.heard(1, 1) + 100000000L * x.heard(1, 2), 980098L + 123400000000L);
        x.hours(1);
        due(15, "hollow", x.heard(2, 0) * 10000 + x.heard(2, 1), 90123);
        due(15, "hollow once", x.heard(2, NONE), 2);
        x.hours(1);
        due(15, "cave six times, eight kept", x.heard(3, NONE), 8);
        due(15, "the last of the first", x.heard(3, 1), 9);
        due(15, "the first of the last", x.heard(3, 2), 123);
        due(15, "no ninth", x.heard(3, 8), -5);
        due(40, "all heard ever", x.status(8), 4 + 2 + 12);
        x.hours(1);
        due(15, "slate above 40 alone", x.heard(4, NONE), 1);
        due(15, "slate", x.heard(4, 0), 9);
        x.hours(1);
        // storm 1 was at 4 at hour 6 and took nothing: both are in storm 0, which is at 6 now
        due(15, "roof never", x.heard(6, NONE), 0);
        due(14, "arrived all the same", x.letterOf(0, 4), 200);
        due(14, "as", x.letterOf(0, 0), 123);
        ThunderIsThePost y = world("hill 0 0;hill 5 9;hill 2 0;storm 1 9 9 1 0;letter 9999 0 1 1;letter 5 0 1 1;hour 2");
        due(14, "valley", y.letterOf(0, 0), 1008);
        due(14, "valley of one digit", y.letterOf(1, 0), 9);
        due(15, "valley heard", y.heard(1, 0), 1008);
        ThunderIsThePost z = world("hill 0 0;hill 2 9;storm 1 9 9 1 0;letter 7 0 1 1;hour 2");
        due(14, "hollow of one digit", z.letterOf(0, 0), 0);
    }

    private static void texts() {
        ThunderIsThePost x = new ThunderIsThePost();
        due(16, "no shelf", x.sky(8), -1);
        due(16, "nothing", x.sky(0), -3);
        due(17, "none yet", x.fault(), NONE);
        due(16, "six items", tell(x, "hill 0 0;hill 1 1;hill 2 5;storm 2 50 1 0 1 2 1;letter 905 0 2 9;hour 4"), 6);
        due(16, "hour", x.status(5), 4);
        due(16, "storm", x.stormOf(0, 13), 1);
        due(16, "its place", x.stormOf(0, 0), 2);
        due(16, "leading noughts", tell(x, "hill 0006 0009;hour 0001;burn 0000"), 3);
        due(16, "kind", x.hillOf(3, 0), 6);
        due(16, "a", x.hillOf(3, 1), 9);
        due(16, "burnt", x.letterOf(0, 4), 300);
        due(16, "lies nowhere", x.hillOf(0, 2), 0);
        due(16, "burnt again", tell(x, "burn 0"), 1);
        due(16, "a letter of the text burnt", tell(x, "letter 1 0 1 1;burn 1;letter 2 0 1 1"), 3);
        due(16, "where", x.letterOf(1, 4) * 1000 + x.letterOf(2, 4), 300000);
        due(16, "faulty: nothing is told", tell(x, "hill 0 0;hour 9;letter 1 2 3 4;hill 0 10"), -6);
        due(17, "its place", x.fault(), 38);
        due(16, "hills", x.status(0), 4);
        due(16, "hour", x.status(5), 5);
        due(16, "letters", x.status(2), 3);
        x.show(0, 0);
        due(16, "a hill", x.sky(0), -2);
        due(17, "stays", x.fault(), 38);
        due(16, "no shelf", x.sky(-1), -1);
        due(17, "stays", x.fault(), 38);
        due(16, "good again", tell(x, "hour 99"), 1);
        due(17, "gone", x.fault(), NONE);
        due(16, "hour", x.status(5), 104);
        ThunderIsThePost y = world(THREE + ";storm 1 9 9 1 0;letter 5 0 1 1;hour 9;burn 0");
        due(16, "burn of one that arrived", y.letterOf(0, 4), 200);
        due(16, "is no burnt one", y.status(4), 0);
        put(y, 0, 3, 'h' + (1L << 32), 'o', 'u', 'r' - (1L << 40), ' ', '3');
        due(16, "longs by 32 bits", y.sky(0), 1);
        put(y, 0, 2, 'h', 'o', 'u', 'r' + 256, ' ', '3');
        due(16, "ints by all bits", y.sky(0), -6);
        due(17, "at the fourth", y.fault(), 3);
        put(y, 0, 1, 'h', 'o', 'u', 'r', ' ', '2', ';', 'h', 'o', 'u', 'r', ' ', '1', '0');
        due(16, "shorts", y.sky(0), 2);
        due(16, "hours", y.status(5), 9 + 3 + 12);
    }

    private static void fault(String text, int want) {
        ThunderIsThePost x = world(THREE);
        tell(x, "letter 1 0 1 1");
        due(16, "sky of \"" + text + "\"", tell(x, text), want == NONE ? 1 : -6);
        due(17, "fault of \"" + text + "\"", x.fault(), want);
        due(17, "refused", x.status(16), want == NONE ? 0 : 1);
    }

    private static void faults() {
        String[] texts = {
            "", "0", "x", "0", "h", "1", "hx", "1", "hi", "2", "hit", "2", "hoi", "2", "hil", "3", "hill", "4",
            "hillx", "4", "hill ", "5", "hill  0 0", "5", "hill 7 0", "5", "hill 7", "5", "hill 0", "6", "hill 0x", "6",
            "hill 0;", "6", "hill 0 ", "7", "hill 0 10", "7", "hill 0 x", "7", "hill 0 0", "-1", "hill 0 0 ", "8",
            "hill 0 0;", "9", "hill 0 0;;", "9", "hill 0 0; ", "9", "hill 0 0;h", "10", "hill 00000 0", "9",
            "hill 12345 0", "5", "hill 9x", "5", "hill -1 0", "5", "Hill 0 0", "0", " hill 0 0", "0", "hill\t0 0", "4",
            "storm 0 1 1 0 1", "6", "storm 10 1 1 0 1", "6", "storm 1 0 1 0 1", "8", "storm 1 100 1 0 1", "8",
            "storm 1 1 0 0 1", "10", "storm 1 1 10 0 1", "10", "storm 1 1 1", "11", "storm 1 1 1;", "11",
            "storm 1 1 1 0", "13", "storm 1 1 1 0;", "13", "storm 1 1 1 0 ", "14", "storm 1 1 1 3 1", "12",
            "storm 1 1 1 0 3", "14", "storm 1 1 1 0 0", "14", "storm 1 1 1 0 1", "-1", "storm 1 1 1 0 1 ", "16",
            "storm 1 1 1 0 1 ;", "16", "storm 1 1 1 0 1 1", "16", "storm 1 1 1 0 1 0", "16", "storm 1 1 1 0 1 0;hour 1", "16",
            "storm 1 1 1 0 1 0 ", "18", "storm 1 1 1 0 1 0 0", "18", "storm 1 1 1 0 1 0 1", "-1", "storm 1 1 1 0 1 0 2 0 2", "-1",
            "storm 1 1 1 0 1 0 2 1 0", "22", "storm 1 1 1 0 1 0 2 1 0 1", "22", "storm 1 1 1 0 1 0 2 1 2 1", "23",
            "storm 1 1 1 0 1 0 2 1 2 ", "23", "storm 1 1 1 0 1x", "15", "storm 1 1 1 0 1 0001", "16",
            "letter 99999 0 1 1", "11", "letter 1 3 1 1", "9", "letter 1 0 3 1", "11", "letter 1 0 0 1", "11",
            "letter 1 0 0", "11", "letter 1 0 1 0", "13", "letter 1 0 1 100", "13", "letter 1 0 1", "12",
            "letter 1 0 1 99", "-1", "letter 1 0 1 1 1", "14", "letter 9999 2 1 1", "-1", "leter", "3",
            "hour 0", "5", "hour 100", "5", "hour 99", "-1", "hour 1 1", "6", "hour 1hour", "6", "hour1", "4", "hours 1", "4",
            "burn 0", "-1", "burn 1", "5", "burn 1;x", "5", "burn", "4", "burn ", "5", "burn 0,", "6", "bur", "3",
        };
        for (int i = 0; i < texts.length; i += 2) {
            fault(texts[i], Integer.parseInt(texts[i + 1]));
        }
        ThunderIsThePost none = new ThunderIsThePost();
        due(16, "no hills", tell(none, "storm 1 1 1 0 1"), -6);
        due(17, "the first hill", none.fault(), 12);
        due(16, "no letters", tell(none, "burn 0"), -6);
        due(17, "the letter", none.fault(), 5);
    }

    private static void faultsOfRoom() {
        ThunderIsThePost x = new ThunderIsThePost();
        String eight = "hill 0 0;hill 0 0;hill 0 0;hill 0 0;hill 0 0;hill 0 0;hill 0 0;hill 0 0";
        due(16, "a ninth hill", tell(x, eight + ";hill 0 0"), -6);
        due(17, "its word", x.fault(), 72);
        due(16, "nothing told", x.status(0), 0);
        due(16, "eight", tell(x, eight), 8);
        int[] want = {1, 2, 3, 0, 0, 3};
        String[] hills = {"h", "hi", "hil", "hill", "hillx", "hilx"};
        for (int i = 0; i < hills.length; i++) {
            due(16, hills[i], tell(x, hills[i]), -6);
            due(17, hills[i], x.fault(), want[i]);
        }
        String four = "storm 1 1 1 0 1;storm 1 1 1 0 1;storm 1 1 1 0 1;storm 1 1 1 0 1";
        due(16, "a fifth storm", tell(x, four + ";storm 1 1 1 0 1"), -6);
        due(17, "its word", x.fault(), 64);
        due(16, "four", tell(x, four), 4);
        due(16, "stor", tell(x, "stor"), -6);
        due(17, "stor", x.fault(), 4);
        due(16, "storm", tell(x, "hour 1;storm"), -6);
        due(17, "storm", x.fault(), 7);
        for (int i = 0; i < 12; i++) {
            due(16, "a letter", tell(x, "letter 1 0 1 1"), 1);
        }
        due(16, "a thirteenth letter", tell(x, "burn 0;letter 1 0 1 1"), -6);
        due(17, "its word", x.fault(), 7);
        due(16, "hours go by all the same", tell(x, "hour 1;burn 11"), 2);
    }

    private static void whatComes() {
        ThunderIsThePost x = world("hill 0 0;hill 2 0;hill 0 0;storm 2 50 1 0 1 2;letter 15 0 2 50");
        int[] where = {0, 0, 0, 0, 0, 0, 100, 100, 100, 100, 200, 200};
        for (int n = 0; n < where.length; n++) {
            due(18, "behind(0, " + n + ", 0)", x.behind(0, n, 0), where[n]);
            due(18, "behind(0, " + n + ", 1)", x.behind(0, n, 1), n < 8 ? 15 : 1);
        }
        due(18, "behind 500", x.behind(0, 500, 0), 200);
        due(18, "no letter", x.behind(1, 501, 0), -5);
        due(18, "no letter", x.behind(-1, 0, 0), -5);
        due(18, "another what", x.behind(0, 501, 2), -5);
        due(18, "another what", x.behind(0, 0, -1), -5);
        due(18, "n 501", x.behind(0, 501, 1), -6);
        due(18, "n -1", x.behind(0, -1, 1), -6);
        due(18, "nothing changed", x.status(5), 0);
        due(19, "no letter", x.arrives(1), -15);
        due(19, "no letter", x.arrives(-1), -15);
        due(19, "counted as -5", x.status(15), 6);
        // pace 9 by six hills: taken at 54, then 27 more to the fourth
        ThunderIsThePost y = world("hill 0 0;hill 0 0;hill 0 0;hill 0 0;storm 9 9 1 0 1 0 1 2 3;letter 1 0 3 1");
        due(19, "by long ways", y.arrives(0), 63 - 18);
        y.hours(44);
        due(19, "the hour is told, not how long", y.arrives(0), 45);
        due(30, "a coin for the one left", y.postage(), 1);
        // 500 hours on are looked at, no more: one letter an hour 54, the last comes too late
        ThunderIsThePost z = world("hill 0 0;hill 0 0;hill 0 0;storm 9 99 1 0 1 2 1 2 1");
        for (int i = 0; i < 12; i++) {
            z.letter(i, 0, 1, 99 - i);
        }
        due(19, "the eighth", z.arrives(7), 54 * 8 + 9);
        due(19, "the ninth, at 495", z.arrives(8), 495);
        due(19, "the tenth, too late", z.arrives(9), NONE);
        due(30, "500 for what comes too late", z.postage(), ninePaid() + 500 * (90 + 89 + 88));
        z.hours(48);
        due(19, "now it is within", z.arrives(9), NONE);
        z.hours(1);
        due(19, "exactly 500 on", z.arrives(9), 549);
        due(24, "exactly 500 on", z.needs(9, 0), 1);
        due(18, "exactly 500 on", z.behind(9, 500, 0), 200);
    }

    private static int ninePaid() {
        int coins = 0;
        for (int i = 0; i < 9; i++) {
            coins += (54 * (i + 1) + 9) * (99 - i);
        }
        return coins;
    }

    private static void handedIn() {
        ThunderIsThePost x = world(THREE + ";storm 1 60 1 0 1 2");
        due(20, "now", x.handIn(5, 0, 2, 60, 0), 5);
        due(20, "behind 2", x.handIn(5, 0, 2, 60, 2), 5);
        due(20, "behind 3", x.handIn(5, 0, 2, 60, 3), 8);
        due(20, "behind 99", x.handIn(5, 0, 2, 60, 99), 104);
        due(20, "too heavy", x.handIn(5, 0, 2, 61, 0), NONE);
        due(20, "no hill, all wrong", x.handIn(-1, 3, 3, 0, -1), -11);
        due(20, "the same", x.handIn(5, 1, 1, 1, 0), -16);
        due(20, "behind 100", x.handIn(5, 0, 2, 60, 100), -16);
        due(20, "behind -1", x.handIn(5, 0, 2, 60, -1), -16);
        due(20, "word", x.handIn(10000, 0, 2, 60, 0), -16);
        due(20, "weight", x.handIn(1, 0, 2, 100, 0), -16);
        due(21, "by 20", x.latest(0, 2, 60, 20), 17);
        due(21, "by 19", x.latest(0, 2, 60, 19), 14);
        due(21, "by 5", x.latest(0, 2, 60, 5), 2);
        due(21, "by 4", x.latest(0, 2, 60, 4), NONE);
        due(21, "by -9", x.latest(0, 2, 60, -9), NONE);
        due(21, "by the end of time", x.latest(0, 2, 60, Integer.MAX_VALUE), 99);
        due(21, "by 104", x.latest(0, 2, 60, 104), 99);
        due(21, "by 103", x.latest(0, 2, 60, 103), 98);
        due(21, "too heavy", x.latest(0, 2, 61, 1000), NONE);
        due(21, "no hill", x.latest(0, 3, 0, 1), -11);
        due(21, "the same", x.latest(2, 2, 1, 1), -16);
        due(21, "weight", x.latest(0, 2, 0, 1), -16);
        x.letter(1, 0, 2, 50);
        due(20, "behind a heavier one", x.handIn(5, 0, 2, 49, 0), 8);
        due(20, "of several the lesser number", x.handIn(5, 0, 2, 50, 0), 8);
        due(20, "a heavier one", x.handIn(5, 0, 2, 51, 0), 5);
        due(22, "by 5", x.lightest(0, 2, 5), 51);
        due(22, "by 7", x.lightest(0, 2, 7), 51);
        due(22, "by 8", x.lightest(0, 2, 8), 1);
        due(22, "by 4", x.lightest(0, 2, 4), NONE);
        due(22, "by -1", x.lightest(0, 2, -1), NONE);
        due(22, "no hill", x.lightest(0, 3, 1), -11);
        due(22, "the same", x.lightest(0, 0, 1), -16);
        due(20, "nothing was handed in", x.status(2), 1);
        for (int i = 1; i < 12; i++) {
            x.letter(1, 2, 1, 60);
        }
        due(20, "full", x.handIn(5, 0, 2, 50, 0), -17);
        due(20, "full and wrong", x.handIn(5, 0, 2, 50, 100), -16);
        due(21, "full", x.latest(0, 2, 50, 9), -17);
        due(21, "full and wrong", x.latest(0, 0, 50, 9), -16);
        due(22, "full", x.lightest(0, 2, 9), -17);
        due(22, "full and nobody", x.lightest(0, 9, 9), -11);
        due(23, "full", x.was(5, 0, 2, 50, 0), -17);
        due(23, "full, another what", x.was(5, 0, 2, 50, 2), -15);
        due(40, "refused -1", x.status(11), 4);
        due(40, "refused -5", x.status(15), 1);
        due(40, "refused -7", x.status(17), 4);
        // handed in late, 500 hours on count from then
        ThunderIsThePost y = world(THREE + ";storm 9 9 1 0 1 2 1 2 1");
        for (int i = 0; i < 8; i++) {
            y.letter(1, 0, 1, 9);
        }
        due(20, "the ninth at 495", y.handIn(1, 0, 1, 1, 0), 495);
        y.letter(1, 0, 1, 9);
        due(20, "the tenth at 549, too late", y.handIn(1, 0, 1, 1, 0), NONE);
        due(20, "49 hours later it isn't", y.handIn(1, 0, 1, 1, 49), 549);
        due(20, "48 hours later it is", y.handIn(1, 0, 1, 1, 48), NONE);
        due(21, "latest by then", y.latest(0, 1, 1, 549), 99);
        due(21, "not sooner", y.latest(0, 1, 1, 548), NONE);
        // nine of weight 9 are ahead, and of force 9 none heavier is taken: always the tenth, too late
        due(22, "500 hours on", y.lightest(0, 1, 9999), NONE);
    }

    private static void waking() {
        ThunderIsThePost x = world("hill 0 0;hill 5 7;hill 2 0;storm 1 60 1 0 1 2");
        int[][] want = {{0, 30, 0}, {1, 100, 30}, {2, 100, 130}, {99, 100, 9830}, {100, 70, 9930}, {101, 0, NONE}, {9999, 0, NONE}};
        for (int[] w : want) {
            due(23, "how many became " + w[0], x.was(w[0], 0, 2, 9, 0), w[1]);
            due(23, "the least", x.was(w[0], 0, 2, 9, 1), w[2]);
        }
        due(23, "below what a valley adds", x.was(6, 0, 1, 9, 0), 0);
        due(23, "as a valley makes it of 0", x.was(7, 0, 1, 9, 0), 10);
        due(23, "the most a valley makes", x.was(1006, 0, 1, 9, 1), 9990);
        due(23, "more", x.was(1007, 0, 1, 9, 1), NONE);
        due(23, "as it was", x.was(777, 2, 0, 9, 0), 1);
        due(23, "as it was", x.was(777, 2, 0, 9, 1), 777);
        due(23, "too heavy", x.was(1, 0, 2, 61, 0), 0);
        due(23, "too heavy", x.was(1, 0, 2, 61, 1), NONE);
        due(23, "no hill", x.was(-1, 0, 3, 0, 9), -11);
        due(23, "another what", x.was(-1, 0, 0, 0, 2), -15);
        due(23, "another what", x.was(1, 0, 1, 1, -1), -15);
        due(23, "word", x.was(10000, 0, 1, 1, 0), -16);
        due(23, "weight", x.was(1, 0, 1, 0, 0), -16);
        due(23, "the same", x.was(1, 1, 1, 1, 0), -16);
        due(23, "counted", x.status(11) * 100 + x.status(15) * 10 + x.status(16), 123);
    }

    private static void needed() {
        // storm 0 keeps the letter from storm 1, which alone comes to hill 2
        ThunderIsThePost x = world(THREE + ";storm 1 50 9 1 0;storm 2 50 9 2 0;letter 1 0 2 10;letter 2 0 1 10;letter 3 1 2 60");
        due(19, "never", x.arrives(0), NONE);
        due(24, "needs", x.needs(0, 0), 2);
        due(24, "free", x.needs(0, 1), 0);
        due(24, "needs of the second", x.needs(1, 0), 1);
        due(24, "free of the second", x.needs(1, 1), NONE);
        due(24, "needs of the third", x.needs(2, 0), 3);
        due(24, "free of the third", x.needs(2, 1), NONE);
        due(24, "no letter", x.needs(3, 0), -15);
        due(24, "no letter", x.needs(-1, 0), -15);
        due(24, "another what", x.needs(0, 2), -15);
        due(24, "another what", x.needs(0, -1), -15);
        due(24, "counted as -5", x.status(15), 4);
        x.hours(5);
        due(24, "arrived", x.letterOf(1, 4), 200);
        due(24, "needs none", x.needs(1, 0), 0);
        due(24, "none frees it", x.needs(1, 1), NONE);
        x.burn(0);
        due(24, "burnt needs all", x.needs(0, 0), 3);
        due(24, "none frees it", x.needs(0, 1), NONE);
        // two that would do it as soon: without either no sooner; without the one in the way sooner
        ThunderIsThePost y = world(THREE + ";hill 0 0;storm 1 50 9 3 0 1 2;storm 1 50 9 3 0 2;storm 1 50 9 3 0 2;letter 1 0 2 10");
        due(24, "with all", y.arrives(0), 3);
        due(24, "no one is needed", y.needs(0, 0), 0);
        due(24, "without the first it is sooner", y.needs(0, 1), 0);
        ThunderIsThePost z = world(THREE + ";storm 3 50 9 2 0;storm 3 50 9 2 0;letter 1 0 2 10");
        due(24, "of none it is sooner", z.needs(0, 1), NONE);
        ThunderIsThePost none = world(THREE + ";letter 1 0 2 10");
        due(24, "no storms", none.needs(0, 0), 0);
        due(24, "no storms", none.needs(0, 1), NONE);
    }

    private static void reached() {
        ThunderIsThePost x = world("hill 0 0;hill 0 0;hill 0 0;hill 0 0;hill 0 0;storm 9 60 1 1 2 3;storm 1 70 1 0 1;storm 1 40 1 3 4");
        due(25, "of 40", x.reach(0, 40), 31);
        due(25, "of 41", x.reach(0, 41), 15);
        due(25, "of 60", x.reach(2, 60), 15);
        due(25, "of 61", x.reach(0, 61), 3);
        due(25, "itself alone", x.reach(3, 61), 8);
        due(25, "from the last to the first", x.reach(3, 50), 15);
        due(25, "of 99", x.reach(0, 99), 1);
        due(25, "of 1", x.reach(4, 1), 31);
        due(25, "no hill", x.reach(5, 0), -1);
        due(25, "no hill", x.reach(-1, 1), -1);
        due(25, "w 0", x.reach(0, 0), -6);
        due(25, "w 100", x.reach(0, 100), -6);
        // against the order of the storms: a chain that grows by the later storm first
        ThunderIsThePost y = world("hill 0 0;hill 0 0;hill 0 0;hill 0 0;hill 0 0;storm 1 9 1 3 4;storm 1 9 1 2 3;storm 1 9 1 1 2;storm 1 9 1 0 1");
        due(25, "on and on", y.reach(0, 9), 31);
    }

    private static void loud() {
        ThunderIsThePost none = new ThunderIsThePost();
        due(26, "no hills", none.loudest(501, 0), -5);
        ThunderIsThePost x = world("hill 0 0;hill 0 0;hill 1 0;hill 3 2;storm 1 99 9 0 1 2 3;letter 1 0 3 9;letter 2 1 2 8");
        due(26, "nothing yet", x.loudest(0, 0), 0);
        // hour 1: at 1 takes letter 1; 2: at 2 it is heard twice; 4: at 0 takes letter 0; 5: at 1 once;
        // 6: at 2 twice; 7: at 3 four times
        due(26, "for 2", x.loudest(2, 0), 2);
        due(26, "for 5", x.loudest(5, 0), 2);
        due(26, "for 6", x.loudest(6, 0), 2);
        due(26, "for 7: of several the first", x.loudest(7, 0), 2);
        due(26, "for 500", x.loudest(500, 0), 2);
        due(26, "pile of several the first", x.loudest(0, 1), 0);
        due(26, "pile behind 4", x.loudest(4, 1), 0);
        x.letter(3, 1, 0, 9);
        due(26, "pile", x.loudest(0, 1), 1);
        due(26, "pile behind 1", x.loudest(1, 1), 0);
        due(26, "n 501", x.loudest(501, 0), -6);
        due(26, "n -1", x.loudest(-1, 1), -6);
        due(26, "another what", x.loudest(501, 2), -5);
        due(26, "another what", x.loudest(0, -1), -5);
        x.hours(6);
        due(26, "what was heard ahead counts nothing", x.loudest(1, 0), 3);
        due(26, "500", x.loudest(500, 1), 0);
        firsts();
    }

    private static void firsts() {
        ThunderIsThePost x = world("hill 0 0;hill 0 0;hill 2 0;hill 0 0;hill 6 0;storm 1 99 9 2 0 3;storm 1 99 9 3 0 1;letter 77 0 2 9;letter 77 0 3 5");
        // hour 1: storm 0 takes both; 2: heard at 3; 3: at 2 as 7
        due(27, "hill", x.firstHeard(77, 0), 3);
        due(27, "hour", x.firstHeard(77, 1), 2);
        due(27, "shorter", x.firstHeard(7, 0), 2);
        due(27, "shorter", x.firstHeard(7, 1), 3);
        due(27, "never", x.firstHeard(8, 0), NONE);
        due(27, "never", x.firstHeard(8, 1), NONE);
        due(27, "another what", x.firstHeard(10000, 2), -15);
        due(27, "another what", x.firstHeard(1, -1), -15);
        due(27, "word", x.firstHeard(10000, 0), -16);
        due(27, "word", x.firstHeard(-1, 1), -16);
        due(27, "counted", x.status(15) * 10 + x.status(16), 22);
        // one hour, storm 0 at 3 and storm 1 at 1: of several the first
        ThunderIsThePost y = world("hill 0 0;hill 0 0;hill 0 0;hill 0 0;storm 1 99 1 2 0 3;storm 1 99 1 3 0 1;letter 77 0 2 9;letter 77 0 2 5");
        due(27, "of several the first", y.firstHeard(77, 0), 1);
        due(27, "hour", y.firstHeard(77, 1), 2);
        ThunderIsThePost z = world("hill 0 0;hill 6 0;hill 4 1;hill 0 0;storm 1 99 1 3 0 1 2;letter 5 0 3 10;letter 6 0 3 9");
        due(27, "neither under a roof nor a slate", z.firstHeard(5, 0), 3);
        due(27, "hour", z.firstHeard(5, 1), 4);
    }

    private static void nights() {
        ThunderIsThePost x = world("hill 0 0;hill 1 0;hill 0 0;storm 1 99 9 2 0 1;letter 5 0 2 9;letter 6 0 1 8");
        // hour 1: both taken; 2: heard at 1: 5 5 6 6; 3: at 2: 5
        put(x, 0, 2, 5, 5, 6, 6, 5);
        due(28, "all of four", x.night(1, 0, 4), NONE);
        due(28, "all of none", x.night(1, 0, 0), NONE);
        due(28, "all of three", x.night(1, 0, 3), NONE);
        due(28, "the fifth isn't heard", x.night(1, 0, 5), 4);
        due(28, "at 2", x.night(2, 0, 1), NONE);
        due(28, "at 2 one", x.night(2, 0, 2), 1);
        due(28, "at 0 none", x.night(0, 0, 2), 0);
        put(x, 1, 1, 5, 6, 6);
        due(28, "not just that", x.night(1, 1, 3), 1);
        put(x, 2, 3, 5 + (3L << 32), 5);
        due(28, "longs by 32 bits", x.night(1, 2, 2), NONE);
        put(x, 3, 0, -1, 5);
        due(28, "what is no word", x.night(1, 3, 2), 0);
        x.row(4, 0, 41);
        x.show(5, 0);
        due(28, "no hill", x.night(3, 5, -1), -11);
        due(28, "no hill", x.night(-1, 0, 1), -11);
        due(28, "no shelf", x.night(0, 8, -1), -11);
        due(28, "a hill", x.night(0, 5, -1), -12);
        due(28, "nothing", x.night(0, 6, -1), -13);
        due(28, "n", x.night(0, 4, -1), -14);
        due(28, "fewer", x.night(0, 4, 42), -15);
        due(28, "41", x.night(0, 4, 41), -16);
        due(28, "40", x.night(0, 4, 40), 0);
        int[] want = {3, 1, 1, 1, 1, 1};
        for (int i = 0; i < want.length; i++) {
            due(28, "counted", x.status(11 + i), want[i]);
        }
        x.hours(2);
        due(28, "from now on", x.night(1, 0, 4), 0);
    }

    private static void meets() {
        ThunderIsThePost x = world(THREE + ";hill 0 0;storm 1 9 1 0 1 2;storm 2 9 1 0 2;storm 9 9 1 3 1;storm 9 9 1 3 2");
        due(29, "at 2", x.meet(0, 1), 2);
        due(29, "the other way", x.meet(1, 0), 2);
        due(29, "never 1 and 2", x.meet(1, 2), NONE);
        due(29, "stay at one hill", x.meet(2, 3), 1);
        due(29, "no such", x.meet(4, 0), -15);
        due(29, "no such", x.meet(0, -1), -15);
        due(29, "the same", x.meet(1, 1), -15);
        due(29, "counted as -5", x.status(15), 3);
        x.hours(2);
        due(29, "the next one, not this", x.meet(0, 1) > 2 ? 1 : 0, 1);
        due(29, "pace 9: still there", x.meet(2, 3), 3);
        x.hours(7);
        due(29, "apart from 9 on till 18", x.meet(2, 3), 18);
    }

    private static void burning() {
        ThunderIsThePost x = world(THREE + ";storm 1 99 9 2 0 1;letter 1 0 2 9;letter 2 0 1 8;letter 3 1 2 7;hour 1");
        due(32, "in the storm", x.letterOf(0, 4), 100);
        due(32, "no letter", x.burn(3), -5);
        due(32, "no letter", x.burn(-1), -5);
        due(32, "burn", x.burn(0), 1);
        due(32, "again", x.burn(0), 0);
        due(32, "gone from the storm", x.stormOf(0, 4), 2);
        due(14, "burnt", x.letterOf(0, 4), 300);
        due(14, "its word stays", x.letterOf(0, 0), 1);
        due(14, "no hour", x.letterOf(0, 5), NONE);
        due(32, "one that lies", x.burn(2), 1);
        due(32, "lies nowhere", x.hillOf(1, 2), 0);
        due(19, "never", x.arrives(0), NONE);
        due(31, "one", x.hours(5), 1);
        due(32, "arrived", x.burn(1), 0);
        due(40, "burnt", x.status(4), 2);
        due(40, "arrived", x.status(3), 1);
        due(40, "letters", x.status(2), 3);
        due(30, "no postage", x.postage(), 0);
        due(18, "burnt stays", x.behind(0, 9, 0), 300);
    }

    private static int drawn;

    private static int draw() {
        drawn = drawn * 1103515245 + 12345;
        return ((drawn >> 16) & 0xffff) % 100;
    }

    private static void droughts() {
        ThunderIsThePost x = world(THREE + ";storm 1 99 9 0 1 2;storm 2 99 9 0 1 2;letter 1 1 2 9");
        due(33, "dry", x.dry(0), 20);
        due(33, "dry(101)", x.dry(101), -6);
        due(33, "dry(-1)", x.dry(-1), -6);
        due(34, "0: none stays", x.drought(3), 0);
        due(34, "storm 0", x.stormOf(0, 0), 0);
        due(34, "storm 1", x.stormOf(1, 0), 1);
        due(34, "said and taken", x.letterOf(0, 4), 200);
        drawn = 1;
        for (int i = 0; i < 4; i++) {
            draw();
        }
        due(34, "a draw for each turn", x.status(7), drawn);
        due(33, "dry", x.dry(100), 0);
        due(34, "100: all stay", x.drought(200), 200 + 100);
        due(34, "storm 0", x.stormOf(0, 0), 0);
        due(34, "hour", x.status(5), 203);
        due(34, "drought(201)", x.drought(201), -6);
        due(34, "drought(0)", x.drought(0), -6);
        due(33, "dry", x.dry(37), 100);
        due(40, "dry", x.status(6), 37);
        int seed = x.seed(-77);
        due(35, "seed", x.seed(987654321), -77);
        due(35, "seed was", seed != 1 ? 1 : 0, 1);
        drawn = 987654321;
        int stayed = 0;
        int steps = 0;
        for (int hour = 204; hour <= 303; hour++) {
            if (draw() < 37) {
                stayed++;
            } else {
                steps++;
            }
            if (hour % 2 == 0 && draw() < 37) {
                stayed++;
            }
        }
        due(34, "stayed", x.drought(100), stayed);
        due(34, "where", x.stormOf(0, 0), steps % 3);
        due(35, "seed", x.status(7), drawn);
        due(31, "hours draw nothing", x.hours(50) + x.status(7), drawn);
        // a letter stays in a storm that stays
        ThunderIsThePost y = world(THREE + ";storm 1 99 9 2 0 1;letter 1 0 1 9;hour 1");
        y.dry(100);
        y.drought(9);
        due(34, "still in it", y.letterOf(0, 4), 100);
    }

    private static void actsAndTraces() {
        ThunderIsThePost x = world(KINDS);
        // number = kind; a: 0 3 5 4 4 7 1
        due(36, "HILL says", x.act(0, 0, 9), 9);
        due(36, "ECHO says", x.act(1, 0, 9), 9 + 1 + 3);
        due(36, "ECHO rolls", x.act(1, 1, 9), 26);
        due(36, "ECHO fades", x.act(1, 2, 9), 26 ^ (6 + 1 + 3));
        trace(x, 12, 11, 20, 10, 20, 10);
        due(36, "HOLLOW rolls", x.act(2, 1, 9), 11 * 2 * 3);
        trace(x, 30, 11, 10);
        due(36, "HOLLOW fades", x.act(2, 2, 9), 66 ^ 6);
        trace(x, 12, 30, 11, 10, 10);
        due(36, "CAVE rolls", x.act(3, 1, 9), (10 + 3 + 4) * 2);
        trace(x, 40, 11, 20, 10);
        due(36, "CAVE says", x.act(3, 0, 9), 9 + 3 + 4);
        due(36, "SLATE says", x.act(4, 0, 9), 9);
        trace(x, 51, 10);
        due(36, "SLATE fades", x.act(4, 2, 9), -(18 ^ 5));
        trace(x, 50, 12, 11, 51, 10, 51, 10);
        due(36, "VALLEY fades", x.act(5, 2, 9), (14 * 2 * 3 ^ (2 + 5)) ^ 5);
        trace(x, 60, 12, 30, 11, 10, 10);
        due(36, "ROOF says", x.act(6, 0, 9), 18);
        trace(x, 70, 51, 10);
        due(36, "ROOF rolls", x.act(6, 1, 9), 8 * 2 * 2);
        trace(x, 71, 11, 70, 51, 10);
        due(36, "ROOF fades", x.act(6, 2, 9), -(32 ^ 16));
        trace(x, 50, 12, 71, 11, 70, 51, 10, 70, 51, 10);
        due(36, "wraps", x.act(1, 1, Integer.MAX_VALUE), (Integer.MAX_VALUE + 4) * 2);
        due(36, "no hill", x.act(7, 0, 9), 0);
        due(37, "no trace", x.trace(0), NONE);
        due(40, "no bodies", x.status(9), 0);
        x.act(6, 2, 9);
        due(36, "no hill", x.act(-1, 0, 9), 0);
        due(37, "no trace", x.trace(0), NONE);
        x.act(6, 2, 9);
        due(36, "no act", x.act(0, 3, 9), 0);
        due(37, "no trace", x.trace(0), NONE);
        x.act(6, 2, 9);
        due(36, "no act", x.act(0, -1, 9), 0);
        due(37, "no trace", x.trace(0), NONE);
        for (int i = 11; i < 18; i++) {
            due(36, "nothing is refused", x.status(i), 0);
        }
    }

    private static void trace(ThunderIsThePost x, int... want) {
        for (int i = 0; i < want.length; i++) {
            due(37, "trace(" + i + ")", x.trace(i), want[i]);
        }
        due(37, "behind the last", x.trace(want.length), NONE);
        due(37, "trace(-1)", x.trace(-1), NONE);
        due(37, "trace(20)", x.trace(20), NONE);
        due(40, "bodies", x.status(9), want.length);
    }

    private static void images() {
        ThunderIsThePost x = world(THREE + ";storm 1 99 9 2 0 1;letter 15 0 2 9;letter 6 0 2 9;hour 2");
        due(39, "no image", x.restore(), -6);
        x.dry(33);
        x.seed(44);
        x.burn(1);
        x.show(0, 2);
        due(38, "image", x.image(), 3);
        x.hill(1, 1);
        x.show(1, 3);
        x.show(2, 0);
        put(x, 3, 2, 3, 0);
        x.storm(3, 2, 1, 9, 9);
        x.letter(1, 3, 0, 9);
        x.dry(50);
        x.drought(20);
        x.hours(20);
        x.act(1, 2, 3);
        tell(x, "hill 9");
        due(39, "restore", x.restore(), 3);
        int[] want = {3, 1, 2, 0, 1, 2, 33, 44, 2, 4, NONE, 0, 0, 0, 0, 0, 2, 0};
        for (int i = 0; i < want.length; i++) {
            due(39, "status(" + i + ")", x.status(i), want[i]);
        }
        due(39, "the fault stays", x.fault(), 5);
        due(39, "the trace stays", x.trace(0), 12);
        due(39, "shelf of an old hill", x.holds(0), 2);
        due(39, "shelf of a new hill", x.holds(1), NONE);
        due(39, "shelf of another old hill", x.holds(2), 0);
        due(39, "a row stays", x.holds(3), 102);
        due(39, "its elements", x.element(3, 0), 3);
        due(39, "in the storm", x.letterOf(0, 4), 100);
        due(39, "in the storm", x.stormOf(0, 4), 1);
        due(39, "at", x.stormOf(0, 0), 1);
        due(39, "burnt", x.letterOf(1, 4), 300);
        due(39, "heard", x.heard(1, NONE), 2);
        due(39, "heard", x.heard(1, 0) * 10 + x.heard(1, 1), 156);
        due(39, "heard later", x.heard(2, NONE), 0);
        x.hours(9);
        due(39, "again", x.restore(), 3);
        due(39, "hour", x.status(5), 2);
        ThunderIsThePost y = new ThunderIsThePost();
        due(38, "image of nothing", y.image(), 0);
        y.hill(0, 0);
        y.show(0, 0);
        due(39, "restore nothing", y.restore(), 0);
        due(39, "shelf", y.holds(0), NONE);
    }

    private static void refusals() {
        ThunderIsThePost x = world(THREE);
        x.hill(9, 0);
        x.hill(0, 99);
        x.row(0, 0, 161);
        x.row(0, 0, -1);
        x.sky(0);
        x.show(0, 0);
        x.sky(0);
        x.letterOf(0, 0);
        for (int i = 11; i < 18; i++) {
            due(40, "status(" + i + ")", x.status(i), 1);
        }
        x.arrives(-1);
        x.handIn(0, 9, 9, 9, 9);
        due(40, "counted as -5", x.status(15), 2);
        due(40, "counted as -1", x.status(11), 2);
        due(40, "another what", x.status(10), NONE);
        due(40, "another what", x.status(Integer.MIN_VALUE), NONE);
        due(40, "another what", x.status(Integer.MAX_VALUE), NONE);
    }

    /** What is asked, and what is refused, changes nothing. */
    private static void nothingChanges() {
        String text = KINDS + ";storm 1 80 2 0 1 3 2 5;storm 2 99 3 0 4 6 5;letter 1234 0 5 50;letter 777 1 6 81";
        ThunderIsThePost x = world(text, "hour 7");
        ThunderIsThePost y = world(text, "hour 7");
        put(x, 0, 1, 1, 2, 3);
        put(y, 0, 1, 1, 2, 3);
        x.behind(0, 300, 1);
        x.arrives(1);
        x.handIn(4, 0, 5, 60, 9);
        x.latest(0, 5, 60, 90);
        x.lightest(0, 5, 90);
        x.was(12, 0, 5, 60, 0);
        x.needs(0, 1);
        x.reach(0, 50);
        x.loudest(200, 0);
        x.firstHeard(1, 0);
        x.night(0, 0, 3);
        x.meet(0, 1);
        x.postage();
        x.hill(0, 10);
        x.storm(0, 2, 10, 1, 1);
        x.letter(1, 2, 2, 2);
        x.hours(0);
        x.drought(0);
        x.dry(-1);
        x.burn(9);
        tell(x, "hill 0 0;burn 0;hour 50;x");
        for (int round = 0; round < 3; round++) {
            for (int i = 0; i < 9; i++) {
                due(18, "status(" + i + ")", x.status(i), y.status(i));
            }
            for (int h = 0; h < 7; h++) {
                due(18, "lying", x.hillOf(h, 2) * 16 + x.hillOf(h, 3), y.hillOf(h, 2) * 16 + y.hillOf(h, 3));
                due(18, "heard", x.heard(h, NONE), y.heard(h, NONE));
                for (int i = 0; i < y.heard(h, NONE); i++) {
                    due(18, "heard", x.heard(h, i), y.heard(h, i));
                }
            }
            for (int l = 0; l < 2; l++) {
                for (int i = 0; i < 6; i++) {
                    due(18, "letterOf", x.letterOf(l, i), y.letterOf(l, i));
                }
            }
            due(31, "hours", x.hours(11), y.hours(11));
        }
    }

    /** 500 HOURS on are looked at, neither 499 nor 501. */
    private static void looksFar() {
        // taken at 54, 108, .. one by one, said at 1 nine hours later: 63, 117, .. 549
        ThunderIsThePost x = world("hill 0 0;hill 0 0;hill 0 0;storm 9 99 1 0 1 2 1 2 1");
        for (int i = 0; i < 12; i++) {
            x.letter(i, 0, 2, 99 - i);
        }
        put(x, 0, 2, 0, 1, 2, 3, 4, 5, 6, 7, 8, 9);
        x.hours(48);
        due(27, "501 hours on", x.firstHeard(9, 1), NONE);
        due(28, "501 hours on", x.night(1, 0, 10), 9);
        x.hours(1);
        due(27, "500 hours on", x.firstHeard(9, 1), 549);
        due(27, "500 hours on", x.firstHeard(9, 0), 1);
        due(28, "500 hours on", x.night(1, 0, 10), NONE);
        due(26, "500 hours on", x.loudest(500, 0), 1);
        due(26, "499 hours on", x.loudest(499, 0), 1);
        // they are at 0 for 7 hours of 42 and for 8 of 40: till 127, and then from 720 on
        ThunderIsThePost y = world("hill 0 0;hill 0 0;hill 0 0;hill 0 0;hill 0 0;storm 7 9 1 0 1 2 1 2 1;storm 8 9 1 0 3 4 3 4");
        y.hours(126);
        due(29, "in the next hour", y.meet(0, 1), 127);
        y.hours(93);
        due(29, "501 hours on", y.meet(1, 0), NONE);
        y.hours(1);
        due(29, "500 hours on", y.meet(1, 0), 720);
    }

    /** Of several STORMS without which it is sooner, the soonest, and of these the first. */
    private static void severalFree() {
        ThunderIsThePost x = world("hill 0 0;hill 0 0;hill 0 0;hill 0 0",
            "storm 1 99 1 3 0;storm 2 99 1 0 3;storm 2 99 1 1 0 3;letter 0 3 1 2;letter 1 3 1 3");
        due(19, "with all", x.arrives(0), NONE);
        due(24, "without 0 or 1 at 6", x.needs(0, 1), 0);
        due(24, "without 2 never", x.needs(0, 0), 4);
        ThunderIsThePost y = world("hill 0 0;hill 0 0;hill 0 0;hill 0 0",
            "storm 1 99 1 1 2 0;storm 2 99 1 3 2;storm 2 99 1 2 0;letter 0 2 1 4;letter 1 2 0 4");
        due(19, "with all", y.arrives(1), NONE);
        due(24, "without 0 at 6, without 1 at 5", y.needs(1, 1), 1);
    }

    private static void otherEdges() {
        ThunderIsThePost x = new ThunderIsThePost();
        due(9, "a 9", x.hill(0, 9), 0);
        due(26, "one hill", x.loudest(9, 0), 0);
        due(26, "one hill", x.loudest(9, 1), 0);
        due(16, "hills", tell(x, "hill 0 0;hill 0 0;storm 1 99 1 1 2;storm 1 99 1 2 0"), 4);
        due(16, "word 0", tell(x, "letter 0 2 0 98"), 1);
        due(14, "from", x.letterOf(0, 1), 2);
        x.letter(1, 2, 0, 98);
        x.hours(1);
        due(14, "in storm 0", x.letterOf(0, 4), 100);
        x.hours(1);
        due(31, "storm 0 at 1", x.stormOf(0, 4), 1);
        due(14, "in storm 1", x.letterOf(1, 4), 101);
        due(31, "hours(1)", x.hours(1), 1);
        // at 1 and 2 letter 0, at 0 letter 1
        due(40, "heard at 0 counts", x.status(8), 3);
        due(15, "heard at 0", x.heard(0, 0), 1);
        x.image();
        x.hours(1);
        x.restore();
        due(39, "from", x.letterOf(1, 1), 2);
        due(15, "heard at 0", x.heard(0, 0), 1);
        // a weight that goes ahead of 98
        ThunderIsThePost y = world(THREE + ";storm 1 99 1 0 1 2;letter 9 0 2 98;letter 8 0 1 97");
        due(22, "by 5", y.lightest(0, 2, 5), 99);
        due(23, "not the first letter", y.was(55, 0, 1, 99, 1), 55);
        due(24, "none is sooner", y.needs(1, 1), NONE);
        // the draw itself is not below
        drawn = 5;
        int first = draw();
        ThunderIsThePost z = world(THREE + ";storm 1 99 1 0 1 2");
        z.seed(5);
        z.dry(first);
        due(34, "goes on", z.drought(1), 0);
        z.seed(5);
        z.dry(first + 1);
        due(34, "stays", z.drought(1), 1);
        due(34, "at", z.stormOf(0, 0), 1);
        ThunderIsThePost k = world(KINDS);
        due(36, "CAVE fades", k.act(3, 2, 9), 34 ^ 12);
        trace(k, 12, 40, 11, 20, 10, 20, 10);
        wordsOfAllHills();
    }

    /** An IMAGE has what was HEARD at the last HILLS, too; a path goes back by the letter's own hills. */
    private static void wordsOfAllHills() {
        ThunderIsThePost x = world("hill 0 0;hill 0 0;hill 0 0;hill 0 0;hill 0 0;hill 0 0;hill 5 1;hill 2 7");
        tell(x, "storm 1 99 9 6 0 7 6 5;letter 123 0 5 9;letter 456 0 5 8;hour 2");
        due(15, "heard", x.heard(7, 0) * 1000 + x.heard(7, 1), 12045);
        x.image();
        x.hours(7);
        due(15, "heard later", x.heard(6, 1), 5);
        x.restore();
        due(39, "heard", x.heard(7, 0) * 1000 + x.heard(7, 1), 12045);
        due(39, "heard", x.heard(7, NONE), 2);
        x.hours(1);
        due(15, "as from there", x.heard(6, 0) * 10 + x.heard(6, 1), 25);
        ThunderIsThePost y = world("hill 0 0;hill 2 0;hill 0 0;hill 2 0;storm 1 99 1 2 0 1 2 0 3;letter 5 0 2 99;letter 7 0 3 98");
        // behind letter 0: taken at 4, by 3, 2, 0 to 1; behind both: taken at 7, by 1, 2, 0 to 3
        due(23, "shorter twice", y.was(8, 0, 1, 99, 0), 100);
        due(23, "shorter twice", y.was(8, 0, 3, 50, 1), 800);
        due(23, "its own hills", y.was(8, 2, 1, 1, 0), 10);
    }

    /** As much of all as there may be. */
    private static void allFull() {
        ThunderIsThePost x = new ThunderIsThePost();
        for (int i = 0; i < 8; i++) {
            x.hill(i == 0 ? 3 : 0, 9);
        }
        put(x, 0, 0, 0, 1, 2, 3, 4, 5);
        for (int i = 0; i < 4; i++) {
            due(10, "storm", x.storm(0, 6, 1, 99, 9), i);
        }
        for (int i = 0; i < 12; i++) {
            due(11, "letter", x.letter(i, 0, 7, 1 + i), i);
        }
        due(25, "reach", x.reach(5, 99), 63);
        due(26, "loudest", x.loudest(500, 0), 0);
        due(26, "pile", x.loudest(500, 1), 0);
        due(24, "needs", x.needs(11, 0), 15);
        due(30, "postage", x.postage(), 500 * 78);
        due(31, "hours", x.hours(6), 0);
        due(13, "the nine heaviest", x.stormOf(0, 4), 0xff8);
        due(13, "the rest", x.stormOf(1, 4), 7);
        due(31, "hours", x.hours(6), 0);
        due(15, "eight kept", x.heard(0, NONE), 8);
        due(15, "the lightest of the rest by storm 1", x.heard(0, 7), 0);
        due(40, "heard ever", x.status(8), 12 * (5 + 11));
        due(39, "image and back", x.image() * 10 + x.restore(), 88);
        StringBuilder many = new StringBuilder();
        for (int i = 0; i < 21; i++) {
            many.append("hour 1;");
        }
        due(16, "of 160", tell(x, many + "hour 1;hour 1"), 23);
        due(16, "hour", x.status(5), 35);
        String[] ends = {"hour 001;hour", "hour 0001;hou", "hour 01;hour ", "hour 01;hill0", "hour 1;hour 0", "hour 01;burn;", "hour 0001; 00"};
        int[] want = {160, 160, 160, 155, 159, 159, 157};
        for (int i = 0; i < ends.length; i++) {
            due(16, "of 160, " + ends[i], tell(x, many + ends[i]), -6);
            due(17, "of 160, " + ends[i], x.fault(), want[i]);
        }
        due(16, "hour", x.status(5), 35);
    }
}
