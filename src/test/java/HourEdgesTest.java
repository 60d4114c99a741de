/** Promises 31 to 40: the edges of HOURS, WORDS, what is HEARD, draws, ACTS, THE TRACE, THE IMAGE, how many. */
public final class HourEdgesTest {
    private static final String PLAIN = "3 x hill(0, 0)\n";

    public static void main(String[] args) {
        hours();
        paces();
        ways();
        forces();
        rooms();
        orders();
        oneAfterTheOther();
        words();
        heard();
        slates();
        burnt();
        dry();
        droughts();
        draws();
        seeds();
        acts();
        actsThatWrap();
        traces();
        images();
        restored();
        allRestored();
        asManyAtOnce();
        statuses();
        Edges.end("HourEdgesTest");
    }

    private static void hours() {
        Edges.edge(31, "n HOURS (1 to 500)", "hours(1) = 0", "status(5) = 1", "hours(500) = 0", "status(5) = 501",
            "hours(0) refused -6", "hours(501) refused -6", "hours(-1) refused -6", "hours(MAX) refused -6",
            "hours(MIN) refused -6", "status(5) = 501");
        Edges.edge(31, "how many LETTERS ARRIVED in them: none, all twelve, none any more", PLAIN, "put(0, 0: 1 0)",
            "2 x storm(0, 2, 1, 9, 9)", "12 x letter(5, 0, 1, 9)", "hours(1) = 0", "hours(1) = 12", "hours(500) = 0",
            "status(3) = 12");
        Edges.edge(31, "how many LETTERS ARRIVED in them: not those burnt", PLAIN, "put(0, 0: 1 0)", "storm(0, 2, 1, 9, 9)",
            "2 x letter(5, 0, 1, 9)", "burn(0)", "hours(2) = 1");
        Edges.edge(31, "of no STORMS nothing comes", PLAIN, "letter(5, 0, 1, 9)", "hours(500) = 0", "letterOf(0, 4) = 0");
    }

    private static void paces() {
        String storm = PLAIN + "put(0, 0: 0 1)\n";
        Edges.edge(31, "if HOUR is divided by its PACE: 1", storm, "storm(0, 2, 1, 9, 9)", "hours(1)", "stormOf(0, 0) = 1",
            "hours(1)", "stormOf(0, 0) = 0");
        Edges.edge(31, "if HOUR is divided by its PACE: 9", storm, "storm(0, 2, 9, 9, 9)", "hours(8)", "stormOf(0, 0) = 0",
            "hours(1)", "stormOf(0, 0) = 1", "hours(8)", "stormOf(0, 0) = 1", "hours(1)", "stormOf(0, 0) = 0");
        Edges.edge(31, "HOUR, not how long the STORM is there", storm, "hours(8)", "storm(0, 2, 9, 9, 9)", "hours(1)",
            "stormOf(0, 0) = 1", "storm(0, 2, 9, 9, 9)", "hours(8)", "stormOf(1, 0) = 0", "hours(1)", "stormOf(1, 0) = 1");
    }

    private static void ways() {
        Edges.edge(31, "behind the last the first: of two", PLAIN, "put(0, 0: 2 1)", "storm(0, 2, 1, 9, 9)", "stormOf(0, 0) = 2",
            "hours(1)", "stormOf(0, 0) = 1", "hours(1)", "stormOf(0, 0) = 2", "hours(1)", "stormOf(0, 0) = 1");
        Edges.edge(31, "behind the last the first: of six", "8 x hill(0, 0)", "put(0, 0: 7 6 5 4 3 2)", "storm(0, 6, 1, 9, 9)",
            "hours(5)", "stormOf(0, 0) = 2", "hours(1)", "stormOf(0, 0) = 7", "hours(1)", "stormOf(0, 0) = 6");
        Edges.edge(31, "nothing is taken where it begins, till it comes there", PLAIN, "put(0, 0: 0 1)", "storm(0, 2, 1, 9, 9)",
            "letter(5, 0, 1, 9)", "stormOf(0, 4) = 0", "hours(1)", "letterOf(0, 4) = 0", "hours(1)", "letterOf(0, 4) = 100");
        Edges.edge(31, "ARRIVED, if it is to that HILL, the first time it is there", PLAIN, "put(0, 0: 0 1 0 1 2)",
            "storm(0, 5, 1, 9, 9)", "letter(5, 0, 1, 9)", "hours(2)", "letterOf(0, 4) = 100", "hours(1) = 1", "letterOf(0, 4) = 200",
            "letterOf(0, 5) = 3", "hillOf(1, 2) = 0", "stormOf(0, 4) = 0");
        Edges.edge(31, "then the LETTER lies there", PLAIN, "put(0, 0: 1 0 2)", "storm(0, 3, 1, 9, 1)", "letter(5, 0, 1, 8)",
            "letter(6, 2, 1, 9)", "hours(2)", "letterOf(0, 4) = 2", "hillOf(2, 2) = 1", "letterOf(1, 4) = 100");
    }

    private static void forces() {
        for (int force : new int[] {1, 50, 98, 99}) {
            int heavier = Math.min(force + 1, 99);
            String due = heavier > force ? "letterOf(1, 4) = 0" : "letterOf(1, 4) = 100";
            Edges.edge(31, "each of a WEIGHT of FORCE at most", PLAIN, "put(0, 0: 1 0)", "storm(0, 2, 1, " + force + ", 9)",
                "letter(5, 0, 2, " + force + ")", "letter(5, 0, 2, " + heavier + ")", "letter(5, 0, 2, 1)", "hours(1)",
                "letterOf(0, 4) = 100", due, "letterOf(2, 4) = 100");
        }
    }

    private static void rooms() {
        String letters = "put(0, 0: 1 0)\n10 x letter(5, 0, 2, 9)\n";
        Edges.edge(31, "till it has ROOM of them: 1", PLAIN, letters, "storm(0, 2, 1, 9, 1)", "hours(1)", "stormOf(0, 4) = 1",
            "hillOf(0, 2) = 1022");
        Edges.edge(31, "till it has ROOM of them: 9", PLAIN, letters, "storm(0, 2, 1, 9, 9)", "hours(1)", "stormOf(0, 4) = 511",
            "hillOf(0, 2) = 512");
        Edges.edge(31, "till it has ROOM of them: as many as there are", PLAIN, "put(0, 0: 1 0)", "3 x letter(5, 0, 2, 9)",
            "storm(0, 2, 1, 9, 3)", "hours(1)", "stormOf(0, 4) = 7", "hillOf(0, 2) = 0");
        Edges.edge(31, "those too heavy take no ROOM", PLAIN, "put(0, 0: 1 0)", "3 x letter(5, 0, 2, 10)", "2 x letter(5, 0, 2, 9)",
            "storm(0, 2, 1, 9, 1)", "hours(1)", "stormOf(0, 4) = 8");
        Edges.edge(31, "it TAKES UP those that were just said, too", PLAIN, "put(0, 0: 1 0)", "9 x letter(5, 0, 2, 9)",
            "storm(0, 2, 1, 9, 9)", "hours(2)", "stormOf(0, 4) = 511", "heard(1, NONE) = 8", "status(8) = 9");
        Edges.edge(31, "those burnt take no ROOM", PLAIN, letters, "storm(0, 2, 1, 9, 1)", "burn(0)", "hours(1)", "stormOf(0, 4) = 2");
    }

    private static void orders() {
        Edges.edge(31, "it TAKES UP the heaviest first", PLAIN, "put(0, 0: 1 0)", "storm(0, 2, 1, 99, 1)", "letter(5, 0, 2, 1)",
            "letter(5, 0, 2, 99)", "letter(5, 0, 2, 98)", "hours(1)", "stormOf(0, 4) = 2");
        Edges.edge(31, "it TAKES UP of several the lesser number", PLAIN, "put(0, 0: 1 0)", "storm(0, 2, 1, 99, 2)",
            "letter(5, 0, 2, 1)", "3 x letter(5, 0, 2, 99)", "hours(1)", "stormOf(0, 4) = 6");
        Edges.edge(31, "it SAYS the heaviest first, of several the lesser number", PLAIN, "put(0, 0: 1 0)", "storm(0, 2, 1, 99, 9)",
            "letter(1, 0, 2, 1)", "letter(2, 0, 2, 99)", "letter(3, 0, 2, 50)", "letter(4, 0, 2, 99)", "letter(5, 0, 2, 50)",
            "letter(6, 0, 2, 1)", "hours(2)", "heard(1, 0) = 2", "heard(1, 1) = 4", "heard(1, 2) = 3", "heard(1, 3) = 5",
            "heard(1, 4) = 1", "heard(1, 5) = 6", "heard(1, 6) refused -5");
        Edges.edge(31, "of those said and those lying the heaviest first, of several the lesser number", PLAIN, "put(0, 0: 1 0)",
            "storm(0, 2, 1, 99, 1)", "letter(1, 1, 2, 9)", "letter(2, 0, 2, 9)", "hours(1)", "stormOf(0, 4) = 2", "hours(1)",
            "stormOf(0, 4) = 1", "letterOf(1, 4) = 1");
    }

    private static void oneAfterTheOther() {
        Edges.edge(31, "each STORM, by numbers: what the first says the second takes up in that HOUR", "4 x hill(0, 0)",
            "put(0, 0: 1 0)", "put(1, 0: 0 3 1)", "storm(0, 2, 1, 50, 1)", "storm(1, 3, 1, 99, 9)", "letter(1, 0, 2, 9)", "hours(1)",
            "letter(2, 1, 2, 60)", "letter(3, 1, 2, 10)", "hours(1)", "letterOf(2, 4) = 100", "letterOf(1, 4) = 101",
            "letterOf(0, 4) = 101");
        Edges.edge(31, "each STORM, by numbers: what the second says the first has no turn for any more", "4 x hill(0, 0)",
            "put(0, 0: 0 1)", "put(1, 0: 1 2 0)", "storm(0, 2, 1, 9, 9)", "storm(1, 3, 1, 99, 1)", "letter(5, 2, 3, 9)",
            "letter(6, 1, 3, 50)", "hours(1)", "letterOf(0, 4) = 101", "hours(2)", "letterOf(0, 4) = 1", "letterOf(1, 4) = 101",
            "hours(2)", "letterOf(0, 4) = 100");
        Edges.edge(31, "two at one HILL: the first takes all it may, the second the rest", PLAIN, "put(0, 0: 1 0)",
            "storm(0, 2, 1, 99, 9)", "storm(0, 2, 1, 99, 9)", "12 x letter(5, 0, 2, 9)", "hours(1)", "stormOf(0, 4) = 511",
            "stormOf(1, 4) = 3584");
    }

    /** A LETTER with a WORD is said at HILL 1, of a KIND with a, and is this there. */
    private static void becomes(String sentence, int kind, int a, int word, int due) {
        Edges.edge(31, sentence, "hill(0, 0)", "hill(" + kind + ", " + a + ")", "put(0, 0: 1 0)", "storm(0, 2, 1, 99, 9)",
            "letter(" + word + ", 0, 1, 99)", "hours(2) = 1", "letterOf(0, 0) = " + due, "letterOf(0, 4) = 200");
        if (kind != 6) {
            Edges.edge(15, sentence, "hill(0, 0)", "hill(" + kind + ", " + a + ")", "put(0, 0: 1 0)", "storm(0, 2, 1, 99, 9)",
                "letter(" + word + ", 0, 1, 99)", "hours(2) = 1", "heard(1, 0) = " + due);
        }
    }

    private static void words() {
        for (int kind : new int[] {0, 1, 3, 4, 6}) {
            becomes("HILL, ECHO, CAVE, SLATE, ROOF: as it was", kind, 9, 0, 0);
            becomes("HILL, ECHO, CAVE, SLATE, ROOF: as it was", kind, 0, 9999, 9999);
            becomes("HILL, ECHO, CAVE, SLATE, ROOF: as it was", kind, 5, 10, 10);
        }
        becomes("HOLLOW: without its last digit, of four", 2, 9, 9999, 999);
        becomes("HOLLOW: without its last digit, of two", 2, 9, 10, 1);
        becomes("HOLLOW: without its last digit, of one", 2, 9, 9, 0);
        becomes("HOLLOW: without its last digit, of 0", 2, 9, 0, 0);
        becomes("VALLEY: likewise, then a more, 0", 5, 0, 9999, 999);
        becomes("VALLEY: likewise, then a more, 0", 5, 0, 9, 0);
        becomes("VALLEY: likewise, then a more, 9, the most that it becomes (9999 at most)", 5, 9, 9999, 1008);
        becomes("VALLEY: likewise, then a more, 9", 5, 9, 9, 9);
        becomes("VALLEY: likewise, then a more, 9", 5, 9, 0, 9);
        becomes("VALLEY: likewise, then a more, 9", 5, 9, 10, 10);
        Edges.edge(31, "a WORD gets shorter till it is 0", "hill(0, 0)", "hill(2, 0)", "hill(0, 0)", "put(0, 0: 1 0)",
            "storm(0, 2, 1, 9, 9)", "letter(9876, 0, 2, 9)", "hours(2)", "letterOf(0, 0) = 987", "hours(2)", "letterOf(0, 0) = 98",
            "hours(2)", "letterOf(0, 0) = 9", "hours(2)", "letterOf(0, 0) = 0", "hours(2)", "letterOf(0, 0) = 0", "heard(1, 4) = 0",
            "heard(1, 3) = 0", "heard(1, 2) = 9");
    }

    /** A LETTER of a WEIGHT is said at HILL 1, of a KIND with a, and HEARD there so often. */
    private static void hears(String sentence, int kind, int a, int weight, int times) {
        Edges.edge(15, sentence, "hill(0, 0)", "hill(" + kind + ", " + a + ")", "put(0, 0: 1 0)", "storm(0, 2, 1, 99, 9)",
            "letter(77, 0, 1, " + weight + ")", "hours(2) = 1", "heard(1, NONE) = " + Math.min(times, 8), "status(8) = " + times);
    }

    private static void heard() {
        for (int kind : new int[] {0, 2, 5}) {
            hears("HILL, HOLLOW, VALLEY: once", kind, 0, 1, 1);
            hears("HILL, HOLLOW, VALLEY: once", kind, 9, 99, 1);
        }
        hears("ECHO: twice", 1, 0, 1, 2);
        hears("ECHO: twice", 1, 9, 99, 2);
        hears("CAVE: 2 and a times, a 0", 3, 0, 1, 2);
        hears("CAVE: 2 and a times, a 6: all 8 are kept", 3, 6, 1, 8);
        hears("CAVE: 2 and a times, a 7: of 9 the last 8", 3, 7, 1, 9);
        hears("CAVE: 2 and a times, a 9: of 11 the last 8", 3, 9, 99, 11);
        hears("ROOF: never", 6, 0, 99, 0);
        hears("ROOF: never", 6, 9, 99, 0);
        hears("ROOF: never", 6, 0, 1, 0);
        Edges.edge(15, "of more than 8 the last 8 are kept: of 8 and 2 the 2 and 6", "hill(0, 0)", "hill(3, 6)", "hill(1, 0)",
            "put(0, 0: 1 0)", "storm(0, 2, 1, 99, 1)", "letter(71, 0, 1, 9)", "letter(72, 0, 1, 8)", "hours(2)", "heard(1, 0) = 71",
            "heard(1, 7) = 71", "hours(2)", "heard(1, 0) = 72", "heard(1, 7) = 72", "status(8) = 16");
        Edges.edge(15, "of more than 8 the last 8 are kept: of 3 times 3 the last 2 of the first", "hill(0, 0)", "hill(3, 1)",
            "put(0, 0: 1 0)", "storm(0, 2, 1, 99, 9)", "letter(71, 0, 1, 9)", "letter(72, 0, 1, 8)", "letter(73, 0, 1, 7)", "hours(2)",
            "heard(1, 0) = 71", "heard(1, 1) = 71", "heard(1, 2) = 72", "heard(1, 4) = 72", "heard(1, 5) = 73", "heard(1, 7) = 73",
            "status(8) = 9");
    }

    private static void slates() {
        for (int a = 0; a <= 9; a++) {
            if (a > 0) {
                hears("SLATE: else not", 4, a, 10 * a, 0);
            }
            hears("SLATE: once, if WEIGHT is above 10 times a", 4, a, 10 * a + 1, 1);
        }
        hears("SLATE: else not", 4, 9, 1, 0);
        hears("SLATE: once, if WEIGHT is above 10 times a", 4, 9, 99, 1);
    }

    private static void burnt() {
        String two = PLAIN + "letter(7, 0, 1, 3)\nletter(8, 1, 2, 4)\n";
        Edges.edge(32, "-5 no such one", two, "burn(2) refused -5", "burn(-1) refused -5", "burn(MAX) refused -5",
            "burn(MIN) refused -5", "burn(0) = 1", "burn(1) = 1", "status(4) = 2");
        Edges.edge(32, "-5 no such one: no LETTERS", PLAIN, "burn(0) refused -5");
        Edges.edge(32, "0 it was", two, "burn(0) = 1", "burn(0) = 0", "status(4) = 1", "status(15) = 0");
        Edges.edge(32, "0 or has ARRIVED", two, "put(0, 0: 1 0)", "storm(0, 2, 1, 9, 9)", "hours(2) = 1", "burn(0) = 0",
            "letterOf(0, 4) = 200", "letterOf(0, 5) = 2", "status(3) = 1", "status(4) = 0");
        Edges.edge(32, "burnt where it lies", two, "burn(0) = 1", "hillOf(0, 2) = 0", "hillOf(1, 2) = 2", "letterOf(0, 4) = 300");
        Edges.edge(32, "burnt in a STORM", two, "put(0, 0: 1 0)", "storm(0, 2, 1, 9, 9)", "hours(1)", "stormOf(0, 4) = 1",
            "burn(0) = 1", "stormOf(0, 4) = 0", "letterOf(0, 4) = 300", "hours(1) = 0", "status(8) = 0");
        Edges.edge(32, "the twelfth", PLAIN, "12 x letter(7, 0, 1, 3)", "burn(11) = 1", "burn(12) refused -5", "hillOf(0, 2) = 2047");
    }

    private static void dry() {
        Edges.edge(33, "DRY 0 to 100", "dry(0) = 20", "status(6) = 0", "dry(100) = 0", "status(6) = 100", "dry(-1) refused -6",
            "dry(101) refused -6", "dry(MAX) refused -6", "dry(MIN) refused -6", "dry(50) = 100", "dry(50) = 50");
    }

    private static void droughts() {
        String storm = PLAIN + "put(0, 0: 0 1 2)\nstorm(0, 3, 1, 9, 9)\n";
        Edges.edge(34, "n DRY HOURS (1 to 200)", "drought(1) = 0", "status(5) = 1", "drought(200) = 0", "status(5) = 201",
            "drought(0) refused -6", "drought(201) refused -6", "drought(-1) refused -6", "drought(MAX) refused -6",
            "drought(MIN) refused -6");
        Edges.edge(34, "DRY 0: none stays, though there are draws", storm, "dry(0)", "drought(200) = 0", "stormOf(0, 0) = 2",
            "seed(1)", "drought(1) = 0", "status(7) = 1103527590");
        Edges.edge(34, "DRY 100: all stay", storm, "dry(100)", "drought(200) = 200", "stormOf(0, 0) = 0", "status(5) = 200");
        Edges.edge(34, "each STORM whose turn it is: no draw for another, or for none", PLAIN, "drought(9) = 0", "status(7) = 1",
            "put(0, 0: 0 1 2)", "storm(0, 3, 9, 9, 9)", "drought(8) = 0", "status(7) = 1", "dry(100)", "drought(1) = 1",
            "status(7) = 1103527590");
        Edges.edge(34, "else it stays, says and takes nothing", storm, "letter(5, 1, 2, 9)", "dry(100)", "drought(1) = 1",
            "letterOf(0, 4) = 1", "hours(1)", "letterOf(0, 4) = 100", "drought(9) = 9", "letterOf(0, 4) = 100", "status(8) = 0",
            "hours(1) = 1", "letterOf(0, 5) = 12");
        Edges.edge(34, "goes on: says and takes", storm, "letter(5, 1, 2, 9)", "dry(0)", "drought(2) = 0", "letterOf(0, 4) = 200",
            "letterOf(0, 5) = 2", "heard(2, 0) = 5");
        Edges.edge(34, "HOURS in truth draw nothing", storm, "dry(100)", "hours(2)", "stormOf(0, 0) = 2", "status(7) = 1",
            "letter(5, 1, 2, 9)", "arrives(0) = 5", "status(7) = 1");
    }

    /** The SEED that becomes another one at the next DRAW. */
    private static int seedAhead(int next) {
        int inverse = 1103515245;
        for (int i = 0; i < 5; i++) {
            inverse *= 2 - 1103515245 * inverse;
        }
        return (next - 12345) * inverse;
    }

    /** With these upper 16 bits of the next SEED the DRAW is just this: DRY of it goes on, of one more stays. */
    private static void drawn(String sentence, int upper, int draw) {
        for (int lower : new int[] {0, 0xffff}) {
            int next = upper << 16 | lower;
            String storm = PLAIN + "put(0, 0: 0 1)\nstorm(0, 2, 1, 9, 9)\nseed(" + seedAhead(next) + ")\n";
            Edges.edge(34, sentence, storm, "dry(" + draw + ")", "drought(1) = 0", "stormOf(0, 0) = 1", "status(7) = " + next);
            Edges.edge(34, sentence, storm, "dry(" + (draw + 1) + ")", "drought(1) = 1", "stormOf(0, 0) = 0", "status(7) = " + next);
        }
    }

    private static void draws() {
        drawn("a DRAW below 100 is DRY at least: 0", 0, 0);
        drawn("a DRAW below 100 is DRY at least: 1", 1, 1);
        drawn("a DRAW below 100 is DRY at least: 99", 99, 99);
        drawn("its upper 16 bits modulo n: 100", 100, 0);
        drawn("its upper 16 bits, no sign: the last with none", 32767, 67);
        drawn("its upper 16 bits, no sign: the first that would have one", 32768, 68);
        drawn("its upper 16 bits, no sign: all set", 65535, 35);
        // the first draws of SEED 1 are 16838 and 38526 modulo 100: 38, 26
        String storms = PLAIN + "put(0, 0: 0 1)\n2 x storm(0, 2, 1, 9, 9)\n";
        Edges.edge(34, "by numbers: the first is below DRY, and so is the second", storms, "dry(39)", "drought(1) = 2",
            "stormOf(0, 0) = 0", "stormOf(1, 0) = 0");
        Edges.edge(34, "by numbers: the first is DRY, the second below it", storms, "dry(38)", "drought(1) = 1",
            "stormOf(0, 0) = 1", "stormOf(1, 0) = 0");
        Edges.edge(34, "by numbers: the first is above DRY, the second just below it", storms, "dry(27)", "drought(1) = 1",
            "stormOf(0, 0) = 1", "stormOf(1, 0) = 0");
        Edges.edge(34, "by numbers: the first is above DRY, the second is DRY", storms, "dry(26)", "drought(1) = 0",
            "stormOf(0, 0) = 1", "stormOf(1, 0) = 1");
    }

    private static void seeds() {
        Edges.edge(35, "what it was (nothing is refused)", "seed(MAX) = 1", "seed(MIN) = 2147483647", "seed(0) = -2147483648",
            "seed(-1) = 0", "status(7) = -1", "status(16) = 0");
        String storm = PLAIN + "put(0, 0: 0 1)\nstorm(0, 2, 1, 9, 9)\n";
        // an odd factor: 2^31 comes back as 2^31
        Edges.edge(35, "SEED times 1103515245, and 12345: of 0", storm, "seed(0)", "drought(1)", "status(7) = 12345");
        Edges.edge(35, "SEED times 1103515245, and 12345: of 1", storm, "drought(1)", "status(7) = 1103527590");
        Edges.edge(35, "SEED times .., wrapping: of -1", storm, "seed(-1)", "drought(1)", "status(7) = -1103502900");
        Edges.edge(35, "SEED times .., wrapping: of the least int", storm, "seed(MIN)", "drought(1)", "status(7) = -2147471303");
        Edges.edge(35, "SEED times .., wrapping: of the most", storm, "seed(MAX)", "drought(1)", "status(7) = 1043980748");
    }

    private static void acts() {
        String two = "hill(0, 3)\nhill(6, 2)\n";
        String none = "trace(0) = NONE\nstatus(9) = 0\n";
        Edges.edge(36, "0: no such HILL", two, "act(1, 0, 5) = 10", "act(2, 0, 5) = 0", "act(0, 0, 5) = 5", "act(-1, 0, 5) = 0",
            "act(MAX, 0, 5) = 0", "act(MIN, 0, 5) = 0", "status(11) = 0", "status(15) = 0");
        Edges.edge(36, "0: no such act", two, "act(0, 0, 5) = 5", "act(0, 1, 5) = 10", "act(0, 2, 5) = 8", "act(0, 3, 5) = 0",
            "act(0, -1, 5) = 0", "act(0, MAX, 5) = 0", "act(0, MIN, 5) = 0", "status(15) = 0", "status(16) = 0");
        for (String call : new String[] {"act(2, 0, 5)", "act(-1, 0, 5)", "act(0, 3, 5)", "act(0, -1, 5)"}) {
            Edges.edge(36, "and no TRACE then", two, "act(1, 2, 5)", "trace(0) = 50", "status(9) = 10", call + " = 0", none);
        }
        Edges.edge(36, "no HILLS", "act(0, 0, 5) = 0", none);
        Edges.edge(36, "m the number, the last one, too", "7 x hill(0, 0)", "hill(0, 9)", "act(7, 0, 5) = 12", "act(0, 0, 5) = 5");
        Edges.edge(36, "k its a: 0 and 9", "hill(1, 0)", "hill(1, 9)", "act(0, 0, 5) = 5", "act(1, 0, 5) = 15");
        acts("HILL says: x + m", 0, 0, 8, "10");
        acts("HILL rolls: says(x) * 2", 0, 1, 16, "11 10");
        acts("HILL fades: rolls(x) ^ says(x - k)", 0, 2, 16 ^ 4, "12 11 10 10");
        acts("ECHO says: super.says(x) + k", 1, 0, 12, "20 10");
        acts("ECHO rolls: those of HILL, with its says", 1, 1, 24, "11 20 10");
        acts("ECHO fades: that of HILL, with its says", 1, 2, 24 ^ 8, "12 11 20 10 20 10");
        acts("HOLLOW says: that of HILL", 2, 0, 8, "10");
        acts("HOLLOW rolls: super.rolls(x) * 3", 2, 1, 48, "30 11 10");
        acts("HOLLOW fades: that of HILL, with its rolls", 2, 2, 48 ^ 4, "12 30 11 10 10");
        acts("CAVE says: that of the next KIND above that has one", 3, 0, 12, "20 10");
        acts("CAVE rolls: super.rolls(x + 1), from ECHO on", 3, 1, 26, "40 11 20 10");
        acts("CAVE fades: that of HILL, with its rolls and says", 3, 2, 26 ^ 8, "12 40 11 20 10 20 10");
        acts("SLATE says: super.says(x) - m", 4, 0, 5, "51 10");
        acts("SLATE rolls: that of HILL, with its says", 4, 1, 10, "11 51 10");
        acts("SLATE fades: -super.fades(x)", 4, 2, -(10 ^ 1), "50 12 11 51 10 51 10");
        acts("VALLEY says: that of HILL", 5, 0, 8, "10");
        acts("VALLEY rolls: that of HOLLOW", 5, 1, 48, "30 11 10");
        acts("VALLEY fades: super.fades(x) ^ 5", 5, 2, 48 ^ 4 ^ 5, "60 12 30 11 10 10");
        acts("ROOF says: super.says(x) * 2", 6, 0, 10, "70 51 10");
        acts("ROOF rolls: super.rolls(x - k)", 6, 1, 4, "71 11 70 51 10");
        acts("ROOF fades: that of SLATE, with its rolls and says", 6, 2, -(4 ^ 2), "50 12 71 11 70 51 10 70 51 10");
    }

    /** An ACT with 5 of HILL 3 of a KIND with a 4, and the bodies that it runs. */
    private static void acts(String sentence, int kind, int act, int due, String bodies) {
        String[] numbers = bodies.split(" ");
        StringBuilder run = new StringBuilder("3 x hill(0, 9)\nhill(" + kind + ", 4)\n");
        run.append("act(3, " + act + ", 5) = " + due + "\n");
        for (int i = 0; i < numbers.length; i++) {
            run.append("trace(" + i + ") = " + numbers[i] + "\n");
        }
        run.append("trace(" + numbers.length + ") = NONE\nstatus(9) = " + numbers.length + "\n");
        Edges.edge(36, sentence, run.toString());
    }

    private static void actsThatWrap() {
        Edges.edge(36, "with x (wrapping): x + m", "2 x hill(0, 9)", "act(1, 0, MAX) = -2147483648", "act(1, 0, MIN) = -2147483647");
        Edges.edge(36, "with x (wrapping): says(x) * 2", "hill(0, 9)", "act(0, 1, MAX) = -2", "act(0, 1, MIN) = 0",
            "act(0, 1, 1073741824) = -2147483648");
        Edges.edge(36, "with x (wrapping): says(x - k)", "hill(0, 9)", "act(0, 2, MIN) = 2147483639");
        Edges.edge(36, "with x (wrapping): super.says(x) + k", "hill(1, 9)", "act(0, 0, MAX) = -2147483640");
        Edges.edge(36, "with x (wrapping): super.rolls(x) * 3", "hill(2, 9)", "act(0, 1, 1073741824) = -2147483648",
            "act(0, 1, MAX) = -6");
        Edges.edge(36, "with x (wrapping): super.rolls(x + 1)", "hill(3, 0)", "act(0, 1, MAX) = 0", "act(0, 1, -1) = 0");
        Edges.edge(36, "with x (wrapping): -super.fades(x)", "hill(4, 0)", "act(0, 2, MIN) = -2147483648");
        Edges.edge(36, "with x (wrapping): super.says(x) - m", "hill(0, 0)", "hill(4, 0)", "act(1, 0, MAX) = 2147483647",
            "act(1, 0, MIN) = -2147483648");
        Edges.edge(36, "with x (wrapping): super.rolls(x - k)", "hill(6, 9)", "act(0, 1, MIN) = -36");
    }

    private static void traces() {
        Edges.edge(37, "NONE: none such", "hill(0, 0)", "trace(0) = NONE", "act(0, 0, 1)", "trace(0) = 10", "trace(1) = NONE",
            "trace(-1) = NONE", "trace(MAX) = NONE", "trace(MIN) = NONE", "status(15) = 0");
        Edges.edge(37, "in the latest act(): a shorter one leaves none of the longer", "hill(6, 0)", "act(0, 2, 1)", "trace(9) = 10",
            "trace(10) = NONE", "act(0, 0, 1)", "trace(0) = 70", "trace(2) = 10", "trace(3) = NONE", "trace(9) = NONE");
        Edges.edge(37, "the first 20 are kept: the longest act has ten", "hill(6, 0)", "act(0, 2, 1)", "status(9) = 10",
            "trace(9) = 10", "trace(10) = NONE", "trace(19) = NONE", "trace(20) = NONE");
        Edges.edge(37, "other calls leave it", "hill(6, 0)", "hill(0, 0)", "act(0, 0, 1)", "hours(9)", "hill(9, 9)", "image()",
            "restore()", "trace(0) = 70", "status(9) = 3");
    }

    private static void images() {
        Edges.edge(38, "how many HILLS: none, and eight", "image() = 0", "8 x hill(0, 0)", "image() = 8");
        Edges.edge(38, "THE IMAGE is taken: the latest one counts", "hill(0, 0)", "image() = 1", "hours(5)", "hill(0, 0)",
            "image() = 2", "hours(5)", "restore() = 2", "status(5) = 5");
        Edges.edge(38, "what is taken changes nothing", "hill(0, 0)", "hours(5)", "image() = 1", "status(5) = 5", "status(0) = 1");
    }

    private static void restored() {
        Edges.edge(39, "-6 there is none", "restore() refused -6", "image() = 0", "restore() = 0", "restore() = 0");
        Edges.edge(39, "all is as THE IMAGE has it: full again from nothing, nothing again from full", "image()", "8 x hill(0, 0)",
            "put(0, 0: 0 1)", "4 x storm(0, 2, 1, 9, 9)", "12 x letter(5, 0, 1, 9)", "hours(3)", "dry(7)", "seed(8)", "restore() = 0",
            "status(0) = 0", "status(1) = 0", "status(2) = 0", "status(3) = 0", "status(5) = 0", "status(6) = 20", "status(7) = 1",
            "status(8) = 0", "hillOf(0, 0) refused -5", "stormOf(0, 0) refused -5", "letterOf(0, 0) refused -5", "hill(3, 4) = 0",
            "hillOf(0, 0) = 3", "hillOf(0, 2) = 0", "heard(0, NONE) = 0", "hillOf(0, 3) = 0");
        Edges.edge(39, "SHELVES with HILLS hold those of these numbers, or NOTHING", "2 x hill(0, 0)", "image()", "hill(0, 0)",
            "hill(1, 1)", "show(0, 0)", "show(1, 1)", "show(2, 2)", "show(7, 3)", "restore() = 2", "holds(0) = 0", "holds(1) = 1",
            "holds(2) = NONE", "holds(7) = NONE", "hill(5, 5) = 2", "holds(2) = NONE", "says(2, 0) refused -3");
        Edges.edge(39, "SHELVES with HILLS: NOTHING, of no HILLS", "image()", "hill(0, 0)", "show(0, 0)", "restore() = 0",
            "holds(0) = NONE");
        Edges.edge(39, "all but SHELVES: ROWS stay", "image()", "put(0, 3: 5 6)", "put(1, 0: 7)", "restore() = 0", "holds(0) = 103",
            "element(0, 1) = 6", "holds(1) = 100", "element(1, 0) = 7", "copy(0, 0, 0, 1, 1) = 1", "copy(0, 0, 0, 2, 1) refused -5");
        Edges.edge(39, "all but SHELVES: what holds NOTHING now holds NOTHING", "hill(0, 0)", "show(0, 0)", "image()", "show(0, NONE)",
            "restore() = 1", "holds(0) = NONE");
        Edges.edge(39, "all but REFUSALS", "image()", "hill(9, 9)", "hours(0)", "restore()", "status(11) = 1", "status(16) = 1");
        Edges.edge(39, "all but the FAULT and THE TRACE", "hill(0, 0)", "image()", "act(0, 1, 1)", "tell \"hox\" = -6", "restore() = 1",
            "fault() = 2", "trace(0) = 11", "trace(1) = 10", "status(9) = 2");
        Edges.edge(39, "all but THE IMAGE: it may be restored again", "hill(0, 0)", "image()", "hours(3)", "restore() = 1", "hours(4)",
            "hill(0, 0)", "restore() = 1", "status(5) = 0", "status(0) = 1");
        Edges.edge(39, "HEARD, DRY, SEED and HOUR, too", "hill(0, 0)", "hill(3, 9)", "put(0, 0: 1 0)", "storm(0, 2, 1, 9, 9)",
            "letter(71, 0, 1, 9)", "letter(72, 0, 1, 8)", "dry(100)", "seed(-5)", "image() = 2", "hours(2)", "dry(0)", "seed(5)",
            "restore() = 2", "heard(1, NONE) = 0", "status(8) = 0", "status(6) = 100", "status(7) = -5", "status(5) = 0",
            "hillOf(0, 2) = 3", "stormOf(0, 0) = 1");
    }

    /** As much of all as there may be, some of it gone by. */
    private static final String FULL = """
        hill(0, 9)
        hill(6, 9)
        hill(5, 9)
        hill(4, 2)
        hill(3, 9)
        hill(2, 0)
        hill(1, 0)
        hill(3, 1)
        put(0, 0: 7 0 1 2 3 4)
        put(1, 0: 5 6)
        storm(0, 6, 1, 99, 9)
        storm(0, 5, 1, 60, 1)
        storm(1, 2, 9, 99, 9)
        storm(0, 6, 2, 1, 1)
        letter(1, 0, 7, 99)
        letter(10, 0, 7, 60)
        letter(100, 0, 2, 1)
        letter(1000, 1, 3, 90)
        letter(9999, 1, 3, 91)
        letter(0, 7, 6, 50)
        letter(5, 7, 1, 50)
        letter(5, 3, 4, 50)
        letter(123, 4, 5, 9)
        letter(9, 5, 7, 9)
        letter(9, 2, 0, 9)
        letter(9, 6, 1, 98)
        dry(33)
        seed(-77)
        hours(9)
        burn(8)
        """;

    private static void allRestored() {
        Edges.alike(39, "all is as THE IMAGE has it, of all as much as may be", FULL
            + "image()\nhours(77)\nburn(11)\nburn(10)\ndry(1)\ndrought(50)\nseed(4)\nrestore() = 8\n", FULL + "image()\n");
        Edges.alike(39, "all is as THE IMAGE has it, once more", FULL
            + "image()\nhours(77)\nrestore() = 8\nhours(500)\nrestore() = 8\n", FULL + "image()\n");
        Edges.alike(38, "what comes behind it changes no IMAGE", FULL + "image()\nhours(40)\n", FULL + "image()\nhours(39)\nhours(1)\n");
        Edges.alike(39, "HILLS, STORMS, LETTERS told later are gone, new ones begin anew", PLAIN + "image()\nput(0, 0: 1 0 2)\n"
            + "storm(0, 3, 1, 9, 9)\nletter(5, 0, 2, 9)\nhours(7)\nrestore() = 3\nstorm(0, 3, 1, 9, 9) = 0\nletter(6, 0, 2, 9) = 0\n",
            PLAIN + "image()\nput(0, 0: 1 0 2)\nstorm(0, 3, 1, 9, 9) = 0\nletter(6, 0, 2, 9) = 0\n");
    }

    private static void asManyAtOnce() {
        Edges.alike(31, "n HOURS: 60 at once or one by one", FULL + "hours(60)\n", FULL + "60 x hours(1)\n");
        Edges.alike(34, "n DRY HOURS: 60 at once or one by one", FULL + "drought(60)\n", FULL + "60 x drought(1)\n");
        Edges.alike(34, "DRY 0: as in truth, but for the draws", FULL + "dry(0)\ndrought(60) = 0\nseed(1)\n", FULL + "dry(0)\nhours(60)\nseed(1)\n");
    }

    private static void statuses() {
        Edges.edge(40, "NONE for another what", "status(-1) = NONE", "status(0) = 0", "status(9) = 0", "status(10) = NONE",
            "status(11) = 0", "status(17) = 0", "status(18) = NONE", "status(MAX) = NONE", "status(MIN) = NONE", "status(15) = 0");
        Edges.edge(40, "how many HILLS, STORMS, LETTERS: as many as may be", "8 x hill(0, 0)", "put(0, 0: 0 1)",
            "4 x storm(0, 2, 1, 9, 9)", "12 x letter(5, 0, 1, 9)", "status(0) = 8", "status(1) = 4", "status(2) = 12");
        Edges.edge(40, "those that ARRIVED, those burnt: all twelve", PLAIN, "put(0, 0: 1 0)", "2 x storm(0, 2, 1, 9, 9)",
            "12 x letter(5, 0, 1, 9)", "burn(0)", "burn(11)", "status(4) = 2", "hours(9) = 10", "status(3) = 10", "status(2) = 12");
        Edges.edge(40, "all that was HEARD ever: not the last 8 alone, and at all HILLS", "hill(0, 0)", "hill(3, 9)", "hill(1, 0)",
            "put(0, 0: 1 2 0)", "storm(0, 3, 1, 9, 9)", "letter(5, 0, 2, 9)", "hours(2)", "status(8) = 0", "hours(1)",
            "status(8) = 11", "hours(1)", "status(8) = 13", "heard(1, NONE) = 8");
        // of each number one, and the same once more 10 lower
        Edges.edge(40, "REFUSALS -1 to -7, each for itself", "hill(0, 0)", "hill(9, 0) refused -1", "status(11) = 1", "show(0, 0)",
            "sky(0) refused -2", "status(12) = 1", "sky(1) refused -3", "status(13) = 1", "row(0, 0, -1) refused -4",
            "status(14) = 1", "hillOf(9, 0) refused -5", "status(15) = 1", "hill(0, 10) refused -6", "status(16) = 1",
            "row(0, 0, 161) refused -7", "status(17) = 1", "status(11) = 1");
        Edges.edge(40, "REFUSALS: those 10 lower are counted as the same", "2 x hill(0, 0)", "12 x letter(5, 0, 1, 9)", "show(0, 0)",
            "row(2, 0, 0)", "handIn(1, 9, 0, 1, 1) refused -11", "night(0, 0, 1) refused -12", "night(0, 1, 1) refused -13",
            "night(0, 2, -1) refused -14", "night(0, 2, 1) refused -15", "firstHeard(-1, 0) refused -16",
            "handIn(1, 0, 1, 1, 1) refused -17", "status(11) = 1", "status(12) = 1", "status(13) = 1", "status(14) = 1",
            "status(15) = 1", "status(16) = 1", "status(17) = 1");
    }
}
