/** Promises 1 to 15: the edges of SHELVES, ROWS, HILLS, STORMS, LETTERS and of what is told of them. */
public final class SkyEdgesTest {
    private static final String PLAIN = "3 x hill(0, 0)";

    /** One HILL of each KIND, its number that of the KIND. */
    private static final String KINDS = """
        hill(0, 0)
        hill(1, 3)
        hill(2, 5)
        hill(3, 4)
        hill(4, 4)
        hill(5, 7)
        hill(6, 1)
        """;

    public static void main(String[] args) {
        newObject();
        shelves();
        rows();
        setsTooFar();
        setsTooMuch();
        copies();
        elements();
        shows();
        holdings();
        sayings();
        hills();
        storms();
        ways();
        stormNumbers();
        letters();
        ofHills();
        ofStorms();
        ofLetters();
        hearings();
        Edges.end("SkyEdgesTest");
    }

    private static void newObject() {
        Edges.edge(1, "No HILLS", "status(0) = 0", "hillOf(0, 0) refused -5");
        Edges.edge(1, "No STORMS", "status(1) = 0", "stormOf(0, 0) refused -5");
        Edges.edge(1, "No LETTERS", "status(2) = 0", "letterOf(0, 0) refused -5", "status(3) = 0", "status(4) = 0");
        Edges.edge(1, "HOUR (0 at first)", "status(5) = 0");
        Edges.edge(1, "DRY (20 at first)", "status(6) = 20", "dry(20) = 20");
        Edges.edge(1, "SEED (1 at first)", "status(7) = 1", "seed(1) = 1");
        Edges.edge(1, "HEARD (none at first)", "status(8) = 0", PLAIN, "heard(2, NONE) = 0", "heard(2, 0) refused -5");
        Edges.edge(1, "SHELVES hold NOTHING (at first)", """
            holds(0) = NONE
            holds(1) = NONE
            holds(2) = NONE
            holds(3) = NONE
            holds(4) = NONE
            holds(5) = NONE
            holds(6) = NONE
            holds(7) = NONE
            """);
        Edges.edge(1, "none yet: no FAULT, no TRACE, no IMAGE", """
            fault() = NONE
            trace(0) = NONE
            status(9) = 0
            restore() refused -6
            """);
        Edges.edge(1, "REFUSALS: none yet", """
            status(11) = 0
            status(12) = 0
            status(13) = 0
            status(14) = 0
            status(15) = 0
            status(16) = 0
            status(17) = 0
            """);
        Edges.edge(1, "NONE = -1", "show(0, NONE) = 0", "holds(0) = -1");
        Edges.edge(1, "an object is used for at most 512 calls: the last one, too",
            "510 x hours(1)", "hours(1) = 0", "status(5) = 511");
    }

    private static void shelves() {
        Edges.edge(2, "SHELVES 0 to 7", "row(0, 0, 1) = 1", "row(7, 0, 1) = 1", "row(-1, 0, 1) refused -1",
            "row(8, 0, 1) refused -1", "row(MAX, 0, 1) refused -1", "row(MIN, 0, 1) refused -1");
        Edges.edge(3, "SHELVES 0 to 7", "put(0, 0: 1)", "put(7, 0: 1)", "set(0, 0, 5) = 1", "set(7, 0, 5) = 1",
            "set(-1, 0, 5) refused -1", "set(8, 0, 5) refused -1");
        Edges.edge(4, "SHELVES 0 to 7", "put(0, 0: 1)", "put(7, 0: 2)", "copy(0, 7, 0, 0, 1) = 1",
            "copy(7, 0, 0, 0, 1) = 1", "copy(-1, 0, 0, 0, 1) refused -1", "copy(0, -1, 0, 0, 1) refused -1",
            "copy(8, 0, 0, 0, 1) refused -1", "copy(0, 8, 0, 0, 1) refused -1");
        Edges.edge(6, "SHELVES 0 to 7", "hill(0, 0)", "show(0, 0) = 1", "show(7, 0) = 1", "show(-1, 0) refused -1",
            "show(8, 0) refused -1", "show(-1, NONE) refused -1", "show(8, NONE) refused -1");
        Edges.edge(7, "NONE: no such SHELF", "8 x hill(0, 0)", "show(0, 5)", "show(7, 6)", "holds(0) = 5", "holds(7) = 6",
            "holds(-1) = NONE", "holds(8) = NONE", "holds(MAX) = NONE", "holds(MIN) = NONE");
        Edges.edge(8, "SHELVES 0 to 7", "hill(1, 0)", "show(0, 0)", "show(7, 0)", "says(0, 1) = 2", "says(7, 1) = 2",
            "says(-1, 1) refused -1", "says(8, 1) refused -1");
        Edges.edge(10, "SHELVES 0 to 7", PLAIN, "put(0, 0: 0 1)", "put(7, 0: 1 2)", "storm(0, 2, 1, 1, 1) = 0",
            "storm(7, 2, 1, 1, 1) = 1", "storm(-1, 2, 1, 1, 1) refused -1", "storm(8, 2, 1, 1, 1) refused -1");
    }

    private static void rows() {
        Edges.edge(2, "a SORT (0 bytes, 1 shorts, 2 ints, 3 longs)", "row(0, 0, 1) = 1", "holds(0) = 100",
            "row(0, 1, 1) = 1", "holds(0) = 101", "row(0, 2, 1) = 1", "holds(0) = 102", "row(0, 3, 1) = 1",
            "holds(0) = 103", "row(0, 4, 1) refused -6", "row(0, -1, 1) refused -6", "holds(0) = 103");
        Edges.edge(2, "0 elements may be", "row(0, 3, 0) = 1", "holds(0) = 103", "set(0, 0, 1) refused -5");
        Edges.edge(2, "-4: a size below 0", "row(0, 3, -1) refused -4", "row(0, 3, MIN) refused -4", "holds(0) = NONE");
        Edges.edge(2, "160 elements may be", "row(0, 3, 160) = 1", "set(0, 159, 7) = 1", "element(0, 159) = 7",
            "set(0, 160, 7) refused -5");
        Edges.edge(2, "-7 n above 160", "row(0, 3, 161) refused -7", "row(0, 3, MAX) refused -7", "holds(0) = NONE");
        Edges.edge(2, "elements, 0 at first, of a new ROW, too", "put(0, 2: 5 6 7)", "row(0, 2, 3) = 1", "element(0, 0) = 0",
            "element(0, 1) = 0", "element(0, 2) = 0");
        Edges.edge(2, "a new ROW has no elements of a longer one", "put(0, 2: 5 6 7)", "row(0, 2, 2) = 1",
            "set(0, 2, 1) refused -5", "element(0, 2) = 0", "row(0, 2, 3) = 1", "element(0, 2) = 0");
        Edges.edge(2, "a ROW that is refused leaves what there is", "put(0, 1: 5 6)", "row(0, 4, 1) refused -6",
            "row(0, 0, -1) refused -4", "row(0, 0, 161) refused -7", "holds(0) = 101", "element(0, 0) = 5",
            "element(0, 1) = 6", "set(0, 1, 300) = 1", "element(0, 1) = 300");
        Edges.edge(2, "SHELF s holds a new ROW: also where a HILL was", "hill(0, 0)", "show(3, 0)", "row(3, 0, 0) = 1",
            "holds(3) = 100");
    }

    private static void setsTooFar() {
        Edges.edge(3, "-5: an element that isn't there", "row(0, 0, 3)", "set(0, 0, 1) = 1", "set(0, 2, 1) = 1",
            "set(0, -1, 1) refused -5", "set(0, 3, 1) refused -5", "set(0, MAX, 1) refused -5", "set(0, MIN, 1) refused -5");
        Edges.edge(3, "-5: of no elements none is there", "row(0, 0, 0)", "set(0, 0, 1) refused -5",
            "set(0, -1, 1) refused -5");
        Edges.edge(3, "-2: a HILL where a ROW is wanted", "hill(0, 0)", "show(1, 0)", "set(1, 0, 1) refused -2");
        Edges.edge(3, "-3: a SHELF that holds NOTHING", "set(1, 0, 1) refused -3", "hill(0, 0)", "show(1, 0)",
            "show(1, NONE)", "set(1, 0, 1) refused -3");
    }

    /** What is put in keeps its lowest bits. */
    private static void setsTooMuch() {
        keeps(0, 127, 127);
        keeps(0, 128, -128);
        keeps(0, -128, -128);
        keeps(0, -129, 127);
        keeps(0, 255, -1);
        keeps(0, 256, 0);
        keeps(0, Long.MIN_VALUE, 0);
        keeps(0, Long.MAX_VALUE, -1);
        keeps(1, 32767, 32767);
        keeps(1, 32768, -32768);
        keeps(1, -32768, -32768);
        keeps(1, -32769, 32767);
        keeps(1, 65536, 0);
        keeps(1, Long.MAX_VALUE, -1);
        keeps(2, Integer.MAX_VALUE, Integer.MAX_VALUE);
        keeps(2, Integer.MAX_VALUE + 1L, Integer.MIN_VALUE);
        keeps(2, Integer.MIN_VALUE, Integer.MIN_VALUE);
        keeps(2, Integer.MIN_VALUE - 1L, Integer.MAX_VALUE);
        keeps(2, 1L << 32, 0);
        keeps(2, Long.MAX_VALUE, -1);
        keeps(3, Long.MAX_VALUE, Long.MAX_VALUE);
        keeps(3, Long.MIN_VALUE, Long.MIN_VALUE);
    }

    private static void keeps(int sort, long put, long kept) {
        Edges.edge(3, "what is put in keeps its lowest bits", "row(0, " + sort + ", 2)",
            "set(0, 0, " + put + ") = 1", "element(0, 0) = " + kept, "element(0, 1) = 0");
    }

    private static void copies() {
        String two = "put(0, 1: 1 2 3 4)\nput(1, 1: 5 6 7)\n";
        Edges.edge(4, "n 0: nothing comes", two, "copy(0, 1, 0, 0, 0) = 1", "element(1, 0) = 5");
        Edges.edge(4, "n 0 at both ends", two, "copy(0, 1, 4, 3, 0) = 1", "element(1, 2) = 7");
        Edges.edge(4, "n 0 behind an end that isn't there", two, "copy(0, 1, 5, 0, 0) refused -5",
            "copy(0, 1, 0, 4, 0) refused -5");
        Edges.edge(4, "-4: n below 0", two, "copy(0, 1, 0, 0, -1) refused -4", "copy(0, 1, 1, 1, -1) refused -4",
            "copy(0, 1, 0, 0, MIN) refused -4");
        Edges.edge(4, "-5: i below 0", two, "copy(0, 1, -1, 0, 1) refused -5", "copy(0, 1, -1, 0, 0) refused -5",
            "copy(0, 1, MIN, 0, 1) refused -5");
        Edges.edge(4, "-5: j below 0", two, "copy(0, 1, 0, -1, 1) refused -5", "copy(0, 1, 0, -1, 0) refused -5",
            "copy(0, 1, 0, MIN, 1) refused -5");
        Edges.edge(4, "all of q, the last n that may be", two, "copy(0, 1, 0, 0, 3) = 1", "element(1, 0) = 1",
            "element(1, 2) = 3", "copy(0, 1, 1, 0, 3) = 1", "element(1, 2) = 4");
        Edges.edge(4, "-5: an end that isn't there, in q", two, "copy(0, 1, 0, 0, 4) refused -5",
            "copy(0, 1, 0, 1, 3) refused -5", "copy(0, 1, 0, 3, 1) refused -5", "copy(0, 1, 0, MAX, 1) refused -5");
        Edges.edge(4, "-5: an end that isn't there, in p", two, "copy(1, 0, 1, 0, 3) refused -5",
            "copy(0, 1, 2, 0, 3) refused -5", "copy(0, 1, 4, 0, 1) refused -5", "copy(0, 1, MAX, 0, 1) refused -5");
        Edges.edge(4, "-5: an end that wraps", two, "copy(0, 1, MAX, 0, MAX) refused -5",
            "copy(0, 1, 0, MAX, MAX) refused -5", "copy(0, 1, 1, 1, MAX) refused -5");
        Edges.edge(4, "as they were ahead: on to the right", two, "copy(0, 0, 0, 1, 3) = 1", "element(0, 0) = 1",
            "element(0, 1) = 1", "element(0, 2) = 2", "element(0, 3) = 3");
        Edges.edge(4, "as they were ahead: on to the left", two, "copy(0, 0, 1, 0, 3) = 1", "element(0, 0) = 2",
            "element(0, 1) = 3", "element(0, 2) = 4", "element(0, 3) = 4");
        Edges.edge(4, "-2 also of two SORTS", "put(0, 0: 1)", "put(1, 1: 1)", "put(2, 2: 1)", "put(3, 3: 1)",
            "copy(0, 1, 0, 0, 1) refused -2", "copy(1, 0, 0, 0, 1) refused -2", "copy(2, 3, 0, 0, 1) refused -2",
            "copy(3, 2, 0, 0, 0) refused -2");
        Edges.edge(4, "two SORTS: when both hold something", "put(0, 3: 1)", "copy(0, 1, 0, 0, 1) refused -3",
            "copy(1, 0, 0, 0, 1) refused -3");
        Edges.edge(4, "-3 either, or both", "put(0, 0: 1)", "copy(0, 1, 0, 0, 1) refused -3",
            "copy(1, 0, 0, 0, 1) refused -3", "copy(1, 2, 0, 0, 1) refused -3", "copy(1, 1, 0, 0, 1) refused -3");
        Edges.edge(4, "of longs all bits come", "put(0, 3: MAX MIN)", "put(1, 3: 0 0)", "copy(0, 1, 0, 0, 2) = 1",
            "element(1, 0) = MAX", "element(1, 1) = MIN");
    }

    private static void elements() {
        Edges.edge(5, "0 if there is none", "put(0, 2: 7 8)", "element(0, 0) = 7", "element(0, 1) = 8",
            "element(0, 2) = 0", "element(0, -1) = 0", "element(0, MAX) = 0", "element(0, MIN) = 0");
        Edges.edge(5, "0: no such SHELF", "put(0, 2: 7)", "put(7, 2: 8)", "element(-1, 0) = 0", "element(8, 0) = 0",
            "element(MAX, 0) = 0", "element(MIN, 0) = 0");
        Edges.edge(5, "0: NOTHING, or a HILL", "2 x hill(0, 0)", "put(0, 2: 7)", "put(1, 2: 8)", "show(0, 1)",
            "show(1, NONE)", "element(0, 0) = 0", "element(1, 0) = 0");
        Edges.edge(5, "nothing is refused", "element(8, 0)", "element(0, 0)", "element(-1, -1)", "row(0, 0, 0)",
            "element(0, 0)", "status(11) = 0", "status(12) = 0", "status(13) = 0", "status(15) = 0");
    }

    private static void shows() {
        Edges.edge(6, "-1: no such HILL", "2 x hill(0, 0)", "show(0, 0) = 1", "show(0, 1) = 1", "show(0, 2) refused -1",
            "show(0, -2) refused -1", "show(0, MAX) refused -1", "show(0, MIN) refused -1", "holds(0) = 1");
        Edges.edge(6, "-1: no HILLS yet", "show(0, 0) refused -1", "hill(0, 0)", "show(0, 0) = 1");
        Edges.edge(6, "NOTHING (hill NONE): 0", "hill(0, 0)", "show(0, 0)", "show(0, NONE) = 0", "holds(0) = NONE",
            "show(0, NONE) = 0");
        Edges.edge(6, "NOTHING where a ROW was", "put(0, 2: 7)", "show(0, NONE) = 0", "holds(0) = NONE",
            "set(0, 0, 1) refused -3");
        Edges.edge(6, "the eighth HILL", "8 x hill(0, 0)", "show(0, 7) = 1", "show(0, 8) refused -1", "holds(0) = 7");
    }

    private static void holdings() {
        Edges.edge(7, "NONE NOTHING, a HILL's number, 100 and the SORT", "hill(0, 0)", "holds(4) = NONE", "show(4, 0)",
            "holds(4) = 0", "row(4, 0, 0)", "holds(4) = 100", "row(4, 3, 0)", "holds(4) = 103", "show(4, NONE)",
            "holds(4) = NONE");
    }

    private static void sayings() {
        Edges.edge(8, "-1: no such KIND", "hill(6, 0)", "show(0, 0)", "says(0, 6) = 0", "says(0, 0) = 0",
            "says(0, 7) refused -1", "says(0, -1) refused -1", "says(0, MAX) refused -1", "says(0, MIN) refused -1");
        Edges.edge(8, "-2: a ROW where a HILL is wanted", "row(0, 0, 0)", "says(0, 0) refused -2", "says(0, 6) refused -2");
        Edges.edge(8, "-3: a SHELF that holds NOTHING", "says(0, 0) refused -3", "says(0, 6) refused -3");
        // one line a KIND: what it says taken for HILL, ECHO, HOLLOW, CAVE, SLATE, VALLEY, ROOF
        String[] said = {
            "0 -2 -2 -2 -2 -2 -2",
            "0 2 -2 -2 -2 -2 -2",
            "0 -2 123 -2 -2 -2 -2",
            "0 6 -2 6 -2 -2 -2",
            "0 -2 -2 -2 1 -2 -2",
            "0 -2 130 -2 -2 130 -2",
            "0 -2 -2 -2 0 -2 0",
        };
        for (int kind = 0; kind < said.length; kind++) {
            String[] answers = said[kind].split(" ");
            for (int as = 0; as < answers.length; as++) {
                String due = answers[as].equals("-2") ? " refused -2" : " = " + answers[as];
                Edges.edge(8, "-2 also a HILL of another KIND; one under it may be", KINDS, "show(2, " + kind + ")",
                    "says(2, " + as + ")" + due);
            }
        }
        Edges.edge(8, "HILL how many LETTERS lie there: none and all twelve", PLAIN, "show(0, 1)", "says(0, 0) = 0",
            "12 x letter(1, 1, 2, 1)", "says(0, 0) = 12");
        Edges.edge(8, "HILL: those that are burnt don't lie there", PLAIN, "show(0, 1)", "3 x letter(1, 1, 2, 1)", "burn(1)",
            "says(0, 0) = 2");
        Edges.edge(8, "CAVE: 2 and a times", "hill(3, 0)", "hill(3, 9)", "show(0, 0)", "show(1, 1)", "says(0, 3) = 2",
            "says(1, 3) = 11", "says(1, 1) = 11");
        Edges.edge(8, "VALLEY what 1234 becomes there", "hill(5, 0)", "hill(5, 9)", "show(0, 0)", "show(1, 1)",
            "says(0, 5) = 123", "says(1, 5) = 132", "says(1, 2) = 132");
        Edges.edge(8, "SLATE: a WEIGHT of 50 is above 10 times 4, not above 10 times 5", "hill(4, 4)", "hill(4, 5)",
            "hill(4, 0)", "hill(4, 9)", "show(0, 0)", "show(1, 1)", "show(2, 2)", "show(3, 3)", "says(0, 4) = 1",
            "says(1, 4) = 0", "says(2, 4) = 1", "says(3, 4) = 0");
        Edges.edge(8, "ROOF: never, as a SLATE neither", "hill(6, 0)", "show(0, 0)", "says(0, 6) = 0", "says(0, 4) = 0");
    }

    private static void hills() {
        Edges.edge(9, "HILLS have numbers, 8 at most", """
            hill(0, 0) = 0
            hill(1, 1) = 1
            hill(2, 2) = 2
            hill(3, 3) = 3
            hill(4, 4) = 4
            hill(5, 5) = 5
            hill(6, 6) = 6
            hill(0, 7) = 7
            hill(0, 8) refused -7
            status(0) = 8
            """);
        Edges.edge(9, "KIND 0 to 6", "hill(0, 0) = 0", "hill(6, 0) = 1", "hill(-1, 0) refused -1", "hill(7, 0) refused -1",
            "hill(MAX, 0) refused -1", "hill(MIN, 0) refused -1", "hillOf(0, 0) = 0", "hillOf(1, 0) = 6");
        Edges.edge(9, "a (0 to 9)", "hill(0, 0) = 0", "hill(0, 9) = 1", "hill(0, -1) refused -6", "hill(0, 10) refused -6",
            "hill(0, MAX) refused -6", "hill(0, MIN) refused -6", "hillOf(0, 1) = 0", "hillOf(1, 1) = 9");
        Edges.edge(9, "a HILL that is refused takes no number", "hill(0, 10) refused -6", "hill(7, 0) refused -1",
            "hill(0, 3) = 0");
    }

    private static void storms() {
        String way = "3 x hill(0, 0)\nput(0, 0: 0 1 2)\n";
        Edges.edge(10, "STORMS have numbers, 4 at most", way, "storm(0, 3, 1, 1, 1) = 0", "storm(0, 2, 1, 1, 1) = 1",
            "storm(0, 3, 1, 1, 1) = 2", "storm(0, 2, 1, 1, 1) = 3", "storm(0, 2, 1, 1, 1) refused -7", "status(1) = 4");
        Edges.edge(10, "a STORM that is refused takes no number", way, "storm(0, 1, 1, 1, 1) refused -6",
            "storm(0, 4, 1, 1, 1) refused -5", "storm(0, 3, 1, 1, 1) = 0");
        Edges.edge(10, "-4: n below 0", way, "storm(0, -1, 1, 1, 1) refused -4", "storm(0, MIN, 1, 1, 1) refused -4");
        Edges.edge(10, "-5 fewer elements: as many may be", way, "storm(0, 3, 1, 1, 1) = 0", "storm(0, 4, 1, 1, 1) refused -5",
            "storm(0, MAX, 1, 1, 1) refused -5", "row(0, 0, 0)", "storm(0, 1, 1, 1, 1) refused -5");
        Edges.edge(10, "-2: a HILL where a ROW is wanted", way, "show(0, 1)", "storm(0, 3, 1, 1, 1) refused -2");
        Edges.edge(10, "-3: a SHELF that holds NOTHING", way, "storm(1, 3, 1, 1, 1) refused -3");
        Edges.edge(10, "it begins at the first HILL of its WAY, whenever it is made", way, "hours(7)",
            "storm(0, 3, 1, 1, 1) = 0", "stormOf(0, 0) = 0", "hours(1)", "stormOf(0, 0) = 1");
        Edges.edge(10, "the WAY stays when the ROW changes", way, "storm(0, 3, 1, 1, 1) = 0", "set(0, 1, 0)",
            "stormOf(0, 11) = 1");
    }

    private static void ways() {
        String eight = "8 x hill(0, 0)\nput(0, 0: 0 7 2 3 4 5 6)\n";
        Edges.edge(10, "a WAY of 2 HILLS may be, 1 and 0 may not", eight, "storm(0, 2, 1, 1, 1) = 0",
            "stormOf(0, 5) = 2", "storm(0, 1, 1, 1, 1) refused -6", "storm(0, 0, 1, 1, 1) refused -6");
        Edges.edge(10, "a WAY of 6 HILLS may be, 7 may not", eight, "storm(0, 6, 1, 1, 1) = 0", "stormOf(0, 5) = 6",
            "storm(0, 7, 1, 1, 1) refused -6");
        Edges.edge(10, "-6 also n: of no elements", eight, "row(1, 0, 0)", "storm(1, 0, 1, 1, 1) refused -6");
        Edges.edge(10, "the last HILL that there is, and the first", eight, "storm(0, 2, 1, 1, 1) = 0", "stormOf(0, 10) = 0",
            "stormOf(0, 11) = 7");
        String three = "3 x hill(0, 0)\n";
        Edges.edge(10, "HILLS of a WAY: the first that isn't there", three, "put(0, 2: 0 3)", "put(1, 2: 0 2)",
            "storm(0, 2, 1, 1, 1) refused -6", "storm(1, 2, 1, 1, 1) = 0");
        Edges.edge(10, "HILLS of a WAY: none below 0", three, "put(0, 2: -1 2)", "put(1, 2: MIN 2)",
            "storm(0, 2, 1, 1, 1) refused -6", "storm(1, 2, 1, 1, 1) = 0", "stormOf(0, 10) = 0");
        Edges.edge(10, "no two alike one after the other, at the beginning", three, "put(0, 2: 1 1 2)",
            "storm(0, 3, 1, 1, 1) refused -6");
        Edges.edge(10, "no two alike one after the other, at the end", three, "put(0, 2: 0 1 0 1 2 2)",
            "storm(0, 6, 1, 1, 1) refused -6", "storm(0, 5, 1, 1, 1) = 0");
        Edges.edge(10, "nor the last and the first", three, "put(0, 2: 0 1 2 0)", "storm(0, 4, 1, 1, 1) refused -6",
            "storm(0, 3, 1, 1, 1) = 0");
        Edges.edge(10, "nor the last and the first of two", three, "put(0, 2: 1 1)", "storm(0, 2, 1, 1, 1) refused -6");
        Edges.edge(10, "alike with another between may be", three, "put(0, 2: 0 1 0 1 0 2)", "storm(0, 6, 1, 1, 1) = 0",
            "stormOf(0, 12) = 0", "stormOf(0, 15) = 2");
        Edges.edge(10, "elements behind the first n count nothing", three, "put(0, 2: 0 1 1 9)", "storm(0, 2, 1, 1, 1) = 0",
            "storm(0, 3, 1, 1, 1) refused -6", "storm(0, 4, 1, 1, 1) refused -6");
        // 2 + 2^32 and 1 - 2^32
        Edges.edge(10, "elements of longs count by their lowest 32 bits", three, "put(0, 3: 4294967298 -4294967295)",
            "storm(0, 2, 1, 1, 1) = 0", "stormOf(0, 10) = 2", "stormOf(0, 11) = 1");
        // 2^32 and 0 are alike then; 2^31 is no HILL
        Edges.edge(10, "longs that are alike by 32 bits, or no HILLS by them", three, "put(0, 3: 4294967296 0)",
            "put(1, 3: 2147483648 0)", "storm(0, 2, 1, 1, 1) refused -6", "storm(1, 2, 1, 1, 1) refused -6");
    }

    private static void stormNumbers() {
        String way = "2 x hill(0, 0)\nput(0, 0: 0 1)\n";
        Edges.edge(10, "a PACE (1 to 9 HOURS)", way, "storm(0, 2, 1, 5, 5) = 0", "storm(0, 2, 9, 5, 5) = 1",
            "storm(0, 2, 0, 5, 5) refused -6", "storm(0, 2, 10, 5, 5) refused -6", "storm(0, 2, -1, 5, 5) refused -6",
            "storm(0, 2, MAX, 5, 5) refused -6", "storm(0, 2, MIN, 5, 5) refused -6", "stormOf(0, 1) = 1", "stormOf(1, 1) = 9");
        Edges.edge(10, "a FORCE (1 to 99)", way, "storm(0, 2, 5, 1, 5) = 0", "storm(0, 2, 5, 99, 5) = 1",
            "storm(0, 2, 5, 0, 5) refused -6", "storm(0, 2, 5, 100, 5) refused -6", "storm(0, 2, 5, -1, 5) refused -6",
            "storm(0, 2, 5, MAX, 5) refused -6", "storm(0, 2, 5, MIN, 5) refused -6", "stormOf(0, 2) = 1", "stormOf(1, 2) = 99");
        Edges.edge(10, "ROOM (1 to 9)", way, "storm(0, 2, 5, 5, 1) = 0", "storm(0, 2, 5, 5, 9) = 1",
            "storm(0, 2, 5, 5, 0) refused -6", "storm(0, 2, 5, 5, 10) refused -6", "storm(0, 2, 5, 5, -1) refused -6",
            "storm(0, 2, 5, 5, MAX) refused -6", "storm(0, 2, 5, 5, MIN) refused -6", "stormOf(0, 3) = 1", "stormOf(1, 3) = 9");
    }

    private static void letters() {
        Edges.edge(11, "LETTERS have numbers, 12 at most", PLAIN, "letter(1, 0, 1, 1) = 0", "10 x letter(1, 1, 0, 1)",
            "letter(1, 0, 1, 1) = 11", "letter(1, 0, 1, 1) refused -7", "status(2) = 12");
        Edges.edge(11, "full of LETTERS, though some have ARRIVED or are burnt", PLAIN, "put(0, 0: 1 0)",
            "storm(0, 2, 1, 9, 9)", "12 x letter(1, 0, 1, 1)", "burn(0)", "hours(9)", "status(3) = 11",
            "letter(1, 0, 1, 1) refused -7");
        Edges.edge(11, "a WORD (0 to 9999)", PLAIN, "letter(0, 0, 1, 5) = 0", "letter(9999, 0, 1, 5) = 1",
            "letter(-1, 0, 1, 5) refused -6", "letter(10000, 0, 1, 5) refused -6", "letter(MAX, 0, 1, 5) refused -6",
            "letter(MIN, 0, 1, 5) refused -6", "letterOf(0, 0) = 0", "letterOf(1, 0) = 9999");
        Edges.edge(11, "WEIGHT (1 to 99)", PLAIN, "letter(5, 0, 1, 1) = 0", "letter(5, 0, 1, 99) = 1",
            "letter(5, 0, 1, 0) refused -6", "letter(5, 0, 1, 100) refused -6", "letter(5, 0, 1, -1) refused -6",
            "letter(5, 0, 1, MAX) refused -6", "letter(5, 0, 1, MIN) refused -6", "letterOf(0, 3) = 1", "letterOf(1, 3) = 99");
        Edges.edge(11, "-1: from no such HILL", PLAIN, "letter(5, 0, 1, 1) = 0", "letter(5, 2, 1, 1) = 1",
            "letter(5, -1, 1, 1) refused -1", "letter(5, 3, 1, 1) refused -1", "letter(5, MAX, 1, 1) refused -1",
            "letter(5, MIN, 1, 1) refused -1");
        Edges.edge(11, "-1: to no such HILL", PLAIN, "letter(5, 1, 0, 1) = 0", "letter(5, 1, 2, 1) = 1",
            "letter(5, 1, -1, 1) refused -1", "letter(5, 1, 3, 1) refused -1", "letter(5, 1, MAX, 1) refused -1",
            "letter(5, 1, MIN, 1) refused -1");
        Edges.edge(11, "-1: no HILLS at all, the same", "letter(5, 0, 0, 1) refused -1", "letter(5, 3, 3, 1) refused -1");
        Edges.edge(11, "-6 also the same", PLAIN, "letter(5, 0, 0, 1) refused -6", "letter(5, 2, 2, 1) refused -6");
        Edges.edge(11, "a LETTER that is refused takes no number", PLAIN, "letter(5, 0, 0, 1) refused -6",
            "letter(5, 0, 3, 1) refused -1", "letter(5, 0, 1, 1) = 0");
        Edges.edge(11, "each lies at the HILL it is from, at first", PLAIN, "letter(5, 2, 0, 1) = 0", "letterOf(0, 4) = 2",
            "hillOf(2, 2) = 1", "hillOf(0, 2) = 0");
    }

    private static void ofHills() {
        Edges.edge(12, "-5: no such HILL", "2 x hill(3, 7)", "hillOf(0, 0) = 3", "hillOf(1, 0) = 3", "hillOf(2, 0) refused -5",
            "hillOf(-1, 0) refused -5", "hillOf(MAX, 0) refused -5", "hillOf(MIN, 0) refused -5");
        Edges.edge(12, "-5: another what", "hill(3, 7)", "hillOf(0, 0) = 3", "hillOf(0, 3) = 0", "hillOf(0, -1) refused -5",
            "hillOf(0, 4) refused -5", "hillOf(0, MAX) refused -5", "hillOf(0, MIN) refused -5");
        Edges.edge(12, "LETTERS that lie there (bits): none, the first and the twelfth", PLAIN, "hillOf(0, 2) = 0",
            "letter(5, 0, 1, 1)", "10 x letter(5, 1, 0, 1)", "letter(5, 0, 1, 1)", "hillOf(0, 2) = 2049", "hillOf(1, 2) = 2046");
        Edges.edge(12, "STORMS at it (bits): none, the first and the fourth", PLAIN, "put(0, 0: 0 1)", "put(1, 0: 1 0)",
            "hillOf(0, 3) = 0", "storm(0, 2, 1, 1, 1)", "2 x storm(1, 2, 1, 1, 1)", "storm(0, 2, 1, 1, 1)", "hillOf(0, 3) = 9",
            "hillOf(1, 3) = 6", "hillOf(2, 3) = 0");
    }

    private static void ofStorms() {
        String two = "3 x hill(0, 0)\nput(0, 0: 0 1 2 1 2 1)\nstorm(0, 2, 1, 1, 1)\nstorm(0, 6, 1, 1, 1)\n";
        Edges.edge(13, "-5: no such STORM", two, "stormOf(1, 5) = 6", "stormOf(2, 0) refused -5", "stormOf(-1, 0) refused -5",
            "stormOf(MAX, 0) refused -5", "stormOf(MIN, 10) refused -5");
        Edges.edge(13, "-5: another what", two, "stormOf(1, 0) = 0", "stormOf(1, 5) = 6", "stormOf(1, -1) refused -5",
            "stormOf(1, 6) refused -5", "stormOf(1, 9) refused -5", "stormOf(1, 16) refused -5", "stormOf(1, MAX) refused -5",
            "stormOf(1, MIN) refused -5");
        Edges.edge(13, "10 to 15 its HILLS, of six", two, "stormOf(1, 10) = 0", "stormOf(1, 15) = 1", "stormOf(1, 14) = 2");
        Edges.edge(13, "10 to 15 its HILLS: -5 behind its WAY", two, "stormOf(0, 10) = 0", "stormOf(0, 11) = 1",
            "stormOf(0, 12) refused -5", "stormOf(0, 15) refused -5");
        Edges.edge(13, "LETTERS in it (bits): none, the first and the twelfth", PLAIN, "put(0, 0: 1 0)", "storm(0, 2, 1, 50, 9)",
            "letter(5, 0, 2, 50)", "10 x letter(5, 0, 2, 51)", "letter(5, 0, 2, 50)", "stormOf(0, 4) = 0", "hours(1)",
            "stormOf(0, 4) = 2049");
    }

    private static void ofLetters() {
        String two = "3 x hill(0, 0)\nletter(7, 0, 1, 3)\nletter(8, 1, 2, 4)\n";
        Edges.edge(14, "-5: no such LETTER", two, "letterOf(1, 0) = 8", "letterOf(2, 0) refused -5", "letterOf(-1, 0) refused -5",
            "letterOf(MAX, 0) refused -5", "letterOf(MIN, 0) refused -5");
        Edges.edge(14, "-5: another what", two, "letterOf(0, 0) = 7", "letterOf(0, 5) = NONE", "letterOf(0, -1) refused -5",
            "letterOf(0, 6) refused -5", "letterOf(0, MAX) refused -5", "letterOf(0, MIN) refused -5");
        Edges.edge(14, "where: the HILL it lies at, the first and the last", "8 x hill(0, 0)", "letter(7, 0, 1, 3)",
            "letter(7, 7, 1, 3)", "letterOf(0, 4) = 0", "letterOf(1, 4) = 7");
        Edges.edge(14, "where: 100 and the STORM it is in, the first and the last", "5 x hill(0, 0)", "put(0, 0: 1 0)",
            "put(1, 0: 1 2)", "storm(0, 2, 1, 9, 9)", "3 x storm(1, 2, 1, 9, 1)", "letter(7, 0, 3, 3)", "3 x letter(7, 2, 3, 3)",
            "hours(1)", "letterOf(0, 4) = 100", "letterOf(1, 4) = 101", "letterOf(3, 4) = 103");
        Edges.edge(14, "where: 200 ARRIVED, and the HOUR", two, "put(0, 0: 2 0 1)", "storm(0, 3, 1, 9, 9)", "letterOf(0, 5) = NONE",
            "hours(1)", "letterOf(0, 4) = 100", "letterOf(0, 5) = NONE", "hours(1)", "letterOf(0, 4) = 200", "letterOf(0, 5) = 2",
            "hours(9)", "letterOf(0, 5) = 2");
        Edges.edge(14, "where: 300 burnt; it has no HOUR", two, "burn(0)", "letterOf(0, 4) = 300", "letterOf(0, 5) = NONE",
            "letterOf(0, 0) = 7", "letterOf(0, 1) = 0", "letterOf(0, 2) = 1", "letterOf(0, 3) = 3");
    }

    private static void hearings() {
        Edges.edge(15, "-1: no such HILL", "2 x hill(0, 0)", "heard(0, NONE) = 0", "heard(1, NONE) = 0", "heard(2, NONE) refused -1",
            "heard(-1, NONE) refused -1", "heard(MAX, 0) refused -1", "heard(MIN, 0) refused -1");
        Edges.edge(15, "-5: none is kept yet", "hill(0, 0)", "heard(0, NONE) = 0", "heard(0, 0) refused -5");
        // at each second HOUR one WORD more is HEARD at HILL 1: 10, 11, ..
        String talk = """
            3 x hill(0, 0)
            put(0, 0: 1 0)
            storm(0, 2, 1, 99, 1)
            letter(10, 0, 1, 30)
            letter(11, 0, 1, 29)
            letter(12, 0, 1, 28)
            letter(13, 0, 1, 27)
            letter(14, 0, 1, 26)
            letter(15, 0, 1, 25)
            letter(16, 0, 1, 24)
            letter(17, 0, 1, 23)
            letter(18, 0, 1, 22)
            letter(19, 0, 1, 21)
            """;
        Edges.edge(15, "-5: behind the last that is kept", talk, "hours(2)", "heard(1, NONE) = 1", "heard(1, 0) = 10",
            "heard(1, 1) refused -5", "heard(1, -2) refused -5", "heard(1, MAX) refused -5", "heard(1, MIN) refused -5");
        Edges.edge(15, "the last 8 WORDS: of 8 all are kept", talk, "hours(16)", "heard(1, NONE) = 8", "heard(1, 0) = 10",
            "heard(1, 7) = 17", "heard(1, 8) refused -5");
        Edges.edge(15, "the last 8 WORDS: of 9 the oldest goes", talk, "hours(18)", "heard(1, NONE) = 8", "heard(1, 0) = 11",
            "heard(1, 6) = 17", "heard(1, 7) = 18", "heard(1, 8) refused -5", "status(8) = 9");
        Edges.edge(15, "the last 8 WORDS: of 10", talk, "hours(20)", "heard(1, NONE) = 8", "heard(1, 0) = 12", "heard(1, 7) = 19");
        // five go to and fro for ever: behind HOUR 8 each was said four times at HILL 1, twenty WORDS in all
        Edges.edge(15, "the last 8 WORDS, in order: of 20", "3 x hill(0, 0)", "put(0, 0: 1 0)", "storm(0, 2, 1, 99, 9)",
            "letter(1, 0, 2, 9)", "letter(2, 0, 2, 8)", "letter(3, 0, 2, 7)", "letter(4, 0, 2, 6)", "letter(5, 0, 2, 5)",
            "hours(8)", "heard(1, NONE) = 8", "heard(1, 0) = 3", "heard(1, 1) = 4", "heard(1, 2) = 5", "heard(1, 3) = 1",
            "heard(1, 4) = 2", "heard(1, 5) = 3", "heard(1, 6) = 4", "heard(1, 7) = 5", "status(8) = 35");
        Edges.edge(15, "nothing HEARD elsewhere", talk, "hours(20)", "heard(0, NONE) = 0", "heard(2, NONE) = 0");
    }
}
