/**
 * REFUSALS of promises 2 to 40: of each call each number that it may answer, and of each two that would fit
 * the first in the order -1 to -7. That nothing else has changed is looked after by Edges.
 */
public final class RefusalEdgesTest {
    private static final String FIRST = "the first that fits, in this order";
    private static final String FULL_TOO = "the first that fits, though it is full, too";

    /**
     * SHELVES: 0 bytes (4), 1 shorts (3), 2 ints (3), 3 longs (4), 4 NOTHING, 5 and 6 HILLS, 7 a text with a
     * FAULT. Seven HILLS, two STORMS, five LETTERS: one lies, one is in a STORM, two ARRIVED, one is burnt.
     */
    private static final String WORLD = """
        hill(0, 0)
        hill(1, 3)
        hill(2, 5)
        hill(3, 4)
        hill(4, 4)
        hill(5, 7)
        hill(6, 1)
        put(0, 0: 0 1 2 3)
        put(1, 1: 300 5 6)
        put(2, 2: 4 0 5)
        put(3, 3: 1 6 0 2)
        show(5, 3)
        show(6, 6)
        storm(0, 4, 1, 60, 2)
        storm(2, 3, 2, 99, 1)
        letter(1234, 0, 2, 50)
        letter(777, 0, 1, 61)
        letter(56, 0, 5, 20)
        letter(9, 4, 3, 80)
        letter(10, 1, 3, 5)
        image()
        hours(7)
        burn(3)
        dry(30)
        seed(99)
        drought(3)
        tell "hill 9" = -6
        act(6, 2, 5)
        """;

    private static final String FULL = """
        8 x hill(0, 0)
        put(0, 0: 0 1 0)
        row(1, 0, 7)
        show(5, 3)
        4 x storm(0, 2, 1, 99, 9)
        12 x letter(1, 0, 1, 9)
        """;

    public static void main(String[] args) {
        world();
        rows();
        copies();
        shownAndSaid();
        made();
        storms();
        letters();
        lookedAt();
        texts();
        asked();
        handedIn();
        latest();
        lightest();
        was();
        reached();
        nights();
        went();
        neverRefused();
        Edges.end("RefusalEdgesTest");
    }

    private static void in(String world, int promise, String sentence, String table) {
        Edges.refused(promise, sentence, world, table);
    }

    /** What the comments above say of WORLD and FULL. */
    private static void world() {
        Edges.edge(40, "a world for what is refused", WORLD, "holds(0) = 100", "holds(3) = 103", "holds(4) = NONE", "holds(5) = 3",
            "holds(6) = 6", "holds(7) = 100", "fault() = 5", "status(0) = 7", "status(1) = 2", "status(2) = 5", "status(3) = 2",
            "status(4) = 1", "letterOf(1, 4) = 4", "letterOf(2, 4) = 100", "status(5) = 10", "status(9) = 10", "status(16) = 1");
        Edges.edge(40, "a full world for what is refused", FULL, "status(0) = 8", "status(1) = 4", "status(2) = 12", "status(17) = 0");
    }

    private static void rows() {
        in(WORLD, 2, "-1; -4; -6 SORT; -7 n above 160", """
            row(8, 0, 1) refused -1
            row(-1, 0, 1) refused -1
            row(0, 0, -1) refused -4
            row(5, 0, -1) refused -4
            row(0, 4, 1) refused -6
            row(0, -1, 1) refused -6
            row(0, 0, 161) refused -7
            row(4, 0, 161) refused -7
            """);
        in(WORLD, 2, FIRST, """
            row(8, 0, -1) refused -1
            row(8, 4, 1) refused -1
            row(8, 0, 161) refused -1
            row(-1, 4, 161) refused -1
            row(-1, -1, -1) refused -1
            row(0, 4, -1) refused -4
            row(0, -1, MIN) refused -4
            row(0, 4, 161) refused -6
            row(0, -1, MAX) refused -6
            """);
        in(WORLD, 3, "-1; -2; -3; -5", """
            set(8, 0, 1) refused -1
            set(-1, 0, 1) refused -1
            set(5, 0, 1) refused -2
            set(4, 0, 1) refused -3
            set(0, 4, 1) refused -5
            set(0, -1, 1) refused -5
            """);
        in(WORLD, 3, FIRST, """
            set(8, -1, 1) refused -1
            set(-1, 999, 1) refused -1
            set(5, -1, 1) refused -2
            set(6, 999, 1) refused -2
            set(4, -1, 1) refused -3
            set(4, 999, 1) refused -3
            """);
    }

    private static void copies() {
        in(WORLD, 4, "-1; -2 also of two SORTS; -3 either; -4 n; -5", """
            copy(8, 0, 0, 0, 1) refused -1
            copy(0, 8, 0, 0, 1) refused -1
            copy(-1, -1, 0, 0, 1) refused -1
            copy(5, 0, 0, 0, 1) refused -2
            copy(0, 5, 0, 0, 1) refused -2
            copy(5, 5, 0, 0, 1) refused -2
            copy(5, 6, 0, 0, 1) refused -2
            copy(0, 1, 0, 0, 1) refused -2
            copy(1, 2, 0, 0, 1) refused -2
            copy(3, 2, 0, 0, 0) refused -2
            copy(4, 0, 0, 0, 1) refused -3
            copy(0, 4, 0, 0, 1) refused -3
            copy(4, 4, 0, 0, 1) refused -3
            copy(0, 7, 0, 0, -1) refused -4
            copy(0, 0, 0, 0, MIN) refused -4
            copy(0, 7, -1, 0, 1) refused -5
            copy(0, 7, 0, -1, 1) refused -5
            copy(0, 7, 1, 0, 4) refused -5
            copy(7, 0, 0, 1, 4) refused -5
            copy(0, 7, 5, 0, 0) refused -5
            copy(7, 0, 0, 5, 0) refused -5
            """);
        in(WORLD, 4, FIRST, """
            copy(8, 5, 0, 0, 1) refused -1
            copy(5, 8, 0, 0, 1) refused -1
            copy(8, 4, 0, 0, 1) refused -1
            copy(4, 8, 0, 0, 1) refused -1
            copy(8, 0, 0, 0, -1) refused -1
            copy(0, 8, -1, 0, 1) refused -1
            copy(5, -1, -1, -1, -1) refused -1
            copy(5, 4, 0, 0, 1) refused -2
            copy(4, 5, 0, 0, 1) refused -2
            copy(5, 0, 0, 0, -1) refused -2
            copy(0, 6, 0, 9, 9) refused -2
            copy(0, 1, 0, 0, -1) refused -2
            copy(0, 1, -1, 0, 1) refused -2
            copy(4, 0, 0, 0, -1) refused -3
            copy(0, 4, 0, 0, -1) refused -3
            copy(0, 4, 9, 0, 1) refused -3
            copy(4, 4, -1, -1, -1) refused -3
            copy(0, 7, -1, 0, -1) refused -4
            copy(0, 7, 0, -1, -1) refused -4
            copy(0, 7, 9, 9, -1) refused -4
            """);
    }

    private static void shownAndSaid() {
        in(WORLD, 6, "-1", """
            show(8, 0) refused -1
            show(-1, 0) refused -1
            show(8, NONE) refused -1
            show(-1, NONE) refused -1
            show(0, 7) refused -1
            show(4, -2) refused -1
            show(5, 7) refused -1
            show(8, 7) refused -1
            """);
        in(WORLD, 8, "-1 SHELF, KIND; -2 also a HILL of another KIND; -3", """
            says(8, 0) refused -1
            says(-1, 0) refused -1
            says(5, 7) refused -1
            says(5, -1) refused -1
            says(0, 0) refused -2
            says(5, 2) refused -2
            says(6, 5) refused -2
            says(4, 0) refused -3
            """);
        in(WORLD, 8, FIRST, """
            says(8, 7) refused -1
            says(0, 7) refused -1
            says(0, -1) refused -1
            says(4, 7) refused -1
            says(4, -1) refused -1
            """);
    }

    private static void made() {
        in(WORLD, 9, "-1 KIND; -6", """
            hill(7, 0) refused -1
            hill(-1, 0) refused -1
            hill(0, 10) refused -6
            hill(6, -1) refused -6
            """);
        in(WORLD, 9, FIRST, "hill(7, 10) refused -1\nhill(-1, -1) refused -1\n");
        in(FULL, 9, "-7", "hill(0, 0) refused -7\nhill(6, 9) refused -7\n");
        in(FULL, 9, FULL_TOO, """
            hill(7, 0) refused -1
            hill(-1, 10) refused -1
            hill(0, 10) refused -6
            hill(6, -1) refused -6
            """);
    }

    private static void storms() {
        in(WORLD, 10, "-1; -2; -3; -4 n; -5 fewer elements; -6 also n, a WAY that may not be", """
            storm(8, 2, 1, 1, 1) refused -1
            storm(-1, 2, 1, 1, 1) refused -1
            storm(5, 2, 1, 1, 1) refused -2
            storm(4, 2, 1, 1, 1) refused -3
            storm(0, -1, 1, 1, 1) refused -4
            storm(0, 5, 1, 1, 1) refused -5
            storm(0, 0, 1, 1, 1) refused -6
            storm(0, 1, 1, 1, 1) refused -6
            storm(0, 2, 0, 1, 1) refused -6
            storm(0, 2, 10, 1, 1) refused -6
            storm(0, 2, 1, 0, 1) refused -6
            storm(0, 2, 1, 100, 1) refused -6
            storm(0, 2, 1, 1, 0) refused -6
            storm(0, 2, 1, 1, 10) refused -6
            storm(1, 2, 1, 1, 1) refused -6
            """);
        in(WORLD, 10, FIRST, """
            storm(8, -1, 1, 1, 1) refused -1
            storm(8, 9, 1, 1, 1) refused -1
            storm(8, 0, 0, 1, 1) refused -1
            storm(-1, 2, 1, 1, 10) refused -1
            storm(5, -1, 1, 1, 1) refused -2
            storm(5, 9, 1, 1, 1) refused -2
            storm(5, 2, 0, 1, 1) refused -2
            storm(5, 0, 1, 1, 1) refused -2
            storm(4, -1, 1, 1, 1) refused -3
            storm(4, 9, 1, 1, 1) refused -3
            storm(4, 1, 1, 1, 1) refused -3
            storm(4, 2, 1, 100, 1) refused -3
            storm(0, -1, 0, 0, 0) refused -4
            storm(1, -1, 1, 1, 1) refused -4
            storm(0, 5, 1, 1, 0) refused -5
            storm(0, 7, 1, 1, 1) refused -5
            storm(1, 4, 1, 1, 1) refused -5
            """);
        in(FULL, 10, "-7", "storm(0, 2, 1, 1, 1) refused -7\n");
        in(FULL, 10, FULL_TOO, """
            storm(8, 2, 1, 1, 1) refused -1
            storm(5, 2, 1, 1, 1) refused -2
            storm(4, 2, 1, 1, 1) refused -3
            storm(0, -1, 1, 1, 1) refused -4
            storm(0, 4, 1, 1, 1) refused -5
            storm(0, 1, 1, 1, 1) refused -6
            storm(1, 7, 1, 1, 1) refused -6
            storm(0, 3, 1, 1, 1) refused -6
            storm(0, 2, 0, 1, 1) refused -6
            storm(0, 2, 1, 100, 1) refused -6
            storm(0, 2, 1, 1, 10) refused -6
            """);
    }

    private static void letters() {
        in(WORLD, 11, "-1 HILLS; -6 also the same", """
            letter(1, 7, 0, 1) refused -1
            letter(1, 0, 7, 1) refused -1
            letter(1, -1, 0, 1) refused -1
            letter(1, 0, -1, 1) refused -1
            letter(-1, 0, 1, 1) refused -6
            letter(10000, 0, 1, 1) refused -6
            letter(1, 0, 1, 0) refused -6
            letter(1, 0, 1, 100) refused -6
            letter(1, 6, 6, 1) refused -6
            """);
        in(WORLD, 11, FIRST, """
            letter(-1, 7, 0, 1) refused -1
            letter(1, 0, 7, 0) refused -1
            letter(1, 7, 7, 1) refused -1
            letter(1, -1, -1, 100) refused -1
            """);
        in(FULL, 11, "-7", "letter(1, 0, 1, 1) refused -7\nletter(9999, 7, 0, 99) refused -7\n");
        in(FULL, 11, FULL_TOO, """
            letter(1, 8, 0, 1) refused -1
            letter(1, 0, 8, 1) refused -1
            letter(-1, 8, 8, 1) refused -1
            letter(1, 0, 0, 1) refused -6
            letter(-1, 0, 1, 1) refused -6
            letter(1, 0, 1, 100) refused -6
            """);
    }

    private static void lookedAt() {
        in(WORLD, 12, "-5: no such one, another what", """
            hillOf(7, 0) refused -5
            hillOf(-1, 0) refused -5
            hillOf(0, 4) refused -5
            hillOf(0, -1) refused -5
            hillOf(7, 4) refused -5
            """);
        in(WORLD, 13, "-5: no such one, another what", """
            stormOf(2, 0) refused -5
            stormOf(-1, 0) refused -5
            stormOf(0, 6) refused -5
            stormOf(0, 9) refused -5
            stormOf(0, 14) refused -5
            stormOf(1, 13) refused -5
            stormOf(0, 16) refused -5
            stormOf(2, -1) refused -5
            """);
        in(WORLD, 14, "-5: no such one, another what", """
            letterOf(5, 0) refused -5
            letterOf(-1, 0) refused -5
            letterOf(0, 6) refused -5
            letterOf(0, -1) refused -5
            letterOf(5, 6) refused -5
            """);
        in(WORLD, 15, "-1; -5", """
            heard(7, NONE) refused -1
            heard(-1, NONE) refused -1
            heard(0, 8) refused -5
            heard(6, 0) refused -5
            heard(0, -2) refused -5
            """);
        in(WORLD, 15, FIRST, "heard(7, 0) refused -1\nheard(-1, -2) refused -1\n");
    }

    private static void texts() {
        in(WORLD, 16, "-1; -2; -3; -6 a FAULT", """
            sky(8) refused -1
            sky(-1) refused -1
            sky(5) refused -2
            sky(4) refused -3
            tell "" fault 0
            tell "hill 0 0;hour 9;burn 0;letter 9 9 9 9" fault 32
            """);
        in(FULL, 16, "-6, not -7: there is no room", "tell \"hill 0 0\" fault 0\ntell \"hour 1;letter 1 0 1 1\" fault 7\n");
    }

    private static void asked() {
        in(WORLD, 18, "-5 also no such LETTER; -6 n", """
            behind(5, 0, 0) refused -5
            behind(-1, 0, 1) refused -5
            behind(0, 0, 2) refused -5
            behind(0, 0, -1) refused -5
            behind(0, -1, 0) refused -6
            behind(0, 501, 1) refused -6
            """);
        in(WORLD, 18, FIRST, """
            behind(5, 501, 0) refused -5
            behind(-1, -1, 0) refused -5
            behind(0, 501, 2) refused -5
            behind(0, -1, -1) refused -5
            """);
        in(WORLD, 19, "-15 no such LETTER (counted as -5)", "arrives(5) refused -15\narrives(-1) refused -15\n");
        in(WORLD, 24, "-15 no such LETTER, another what (counted as -5)", """
            needs(5, 0) refused -15
            needs(-1, 1) refused -15
            needs(0, 2) refused -15
            needs(0, -1) refused -15
            needs(5, 2) refused -15
            """);
        in(WORLD, 29, "-15 no such STORMS, the same (counted as -5)", """
            meet(0, 2) refused -15
            meet(2, 0) refused -15
            meet(-1, 1) refused -15
            meet(1, -1) refused -15
            meet(1, 1) refused -15
            meet(2, 2) refused -15
            """);
    }

    private static void handedIn() {
        in(WORLD, 20, "-11 HILLS; -16 also the same (counted as -1, -6, -7)", """
            handIn(1, 7, 0, 1, 0) refused -11
            handIn(1, 0, 7, 1, 0) refused -11
            handIn(1, -1, 0, 1, 0) refused -11
            handIn(1, 0, -1, 1, 0) refused -11
            handIn(-1, 0, 1, 1, 0) refused -16
            handIn(10000, 0, 1, 1, 0) refused -16
            handIn(1, 0, 1, 0, 0) refused -16
            handIn(1, 0, 1, 100, 0) refused -16
            handIn(1, 0, 1, 1, -1) refused -16
            handIn(1, 0, 1, 1, 100) refused -16
            handIn(1, 6, 6, 1, 0) refused -16
            """);
        in(WORLD, 20, FIRST, """
            handIn(-1, 7, 0, 1, 0) refused -11
            handIn(1, 0, 7, 0, 0) refused -11
            handIn(1, 0, -1, 1, 100) refused -11
            handIn(1, 7, 7, 1, 0) refused -11
            """);
        in(FULL, 20, "-17", "handIn(1, 0, 1, 1, 0) refused -17\nhandIn(1, 0, 1, 1, 99) refused -17\n");
        in(FULL, 20, FULL_TOO, """
            handIn(1, 8, 0, 1, 0) refused -11
            handIn(1, 0, 8, 1, 100) refused -11
            handIn(1, 0, 0, 1, 0) refused -16
            handIn(-1, 0, 1, 1, 0) refused -16
            handIn(1, 0, 1, 100, 0) refused -16
            handIn(1, 0, 1, 1, 100) refused -16
            handIn(1, 0, 1, 1, -1) refused -16
            """);
    }

    private static void latest() {
        in(WORLD, 21, "-11; -16 likewise", """
            latest(7, 0, 1, 50) refused -11
            latest(0, 7, 1, 50) refused -11
            latest(-1, 0, 1, 50) refused -11
            latest(0, -1, 1, 50) refused -11
            latest(0, 1, 0, 50) refused -16
            latest(0, 1, 100, 50) refused -16
            latest(6, 6, 1, 50) refused -16
            """);
        in(WORLD, 21, FIRST, "latest(7, 0, 0, 50) refused -11\nlatest(7, 7, 1, 50) refused -11\nlatest(0, -1, 100, -1) refused -11\n");
        in(FULL, 21, "-17", "latest(0, 1, 1, 50) refused -17\nlatest(0, 1, 1, -1) refused -17\n");
        in(FULL, 21, FULL_TOO, """
            latest(8, 0, 1, 50) refused -11
            latest(0, 8, 0, 50) refused -11
            latest(0, 0, 1, 50) refused -16
            latest(0, 1, 0, 50) refused -16
            latest(0, 1, 100, 50) refused -16
            """);
    }

    private static void lightest() {
        in(WORLD, 22, "-11; -16 likewise", """
            lightest(7, 0, 50) refused -11
            lightest(0, 7, 50) refused -11
            lightest(-1, 0, 50) refused -11
            lightest(0, -1, 50) refused -11
            lightest(6, 6, 50) refused -16
            """);
        in(WORLD, 22, FIRST, "lightest(7, 7, 50) refused -11\nlightest(-1, -1, 50) refused -11\n");
        in(FULL, 22, "-17", "lightest(0, 1, 50) refused -17\n");
        in(FULL, 22, FULL_TOO, "lightest(8, 0, 50) refused -11\nlightest(0, 8, 50) refused -11\nlightest(0, 0, 50) refused -16\n");
    }

    private static void was() {
        in(WORLD, 23, "-11; -15 another what; -16 likewise", """
            was(1, 7, 0, 1, 0) refused -11
            was(1, 0, 7, 1, 0) refused -11
            was(1, -1, 0, 1, 0) refused -11
            was(1, 0, -1, 1, 0) refused -11
            was(1, 0, 1, 1, 2) refused -15
            was(1, 0, 1, 1, -1) refused -15
            was(-1, 0, 1, 1, 0) refused -16
            was(10000, 0, 1, 1, 1) refused -16
            was(1, 0, 1, 0, 0) refused -16
            was(1, 0, 1, 100, 1) refused -16
            was(1, 6, 6, 1, 0) refused -16
            """);
        in(WORLD, 23, FIRST, """
            was(1, 7, 0, 1, 2) refused -11
            was(-1, 0, 7, 1, 0) refused -11
            was(1, 7, 7, 100, -1) refused -11
            was(-1, 0, 1, 1, 2) refused -15
            was(1, 0, 1, 0, -1) refused -15
            was(1, 0, 0, 1, 2) refused -15
            """);
        in(FULL, 23, "-17", "was(1, 0, 1, 1, 0) refused -17\nwas(1, 0, 1, 1, 1) refused -17\n");
        in(FULL, 23, FULL_TOO, """
            was(1, 8, 0, 1, 0) refused -11
            was(1, 0, 8, 1, 2) refused -11
            was(1, 0, 1, 1, 2) refused -15
            was(1, 0, 0, 1, -1) refused -15
            was(1, 0, 0, 1, 0) refused -16
            was(-1, 0, 1, 1, 0) refused -16
            was(1, 0, 1, 100, 0) refused -16
            """);
    }

    private static void reached() {
        in(WORLD, 25, "-1; -6 w not 1 to 99", """
            reach(7, 1) refused -1
            reach(-1, 1) refused -1
            reach(0, 0) refused -6
            reach(0, 100) refused -6
            """);
        in(WORLD, 25, FIRST, "reach(7, 0) refused -1\nreach(-1, 100) refused -1\n");
        in(WORLD, 26, "-5 another what; -6 n", """
            loudest(0, 2) refused -5
            loudest(0, -1) refused -5
            loudest(-1, 0) refused -6
            loudest(501, 1) refused -6
            """);
        in(WORLD, 26, FIRST, "loudest(-1, 2) refused -5\nloudest(501, -1) refused -5\n");
        in("", 26, "-5 no HILLS", "loudest(0, 0) refused -5\nloudest(0, 1) refused -5\nloudest(0, 2) refused -5\n");
        in("", 26, FIRST, "loudest(-1, 0) refused -5\nloudest(501, 1) refused -5\n");
        in(WORLD, 27, "-15 another what; -16 (counted as -5, -6)", """
            firstHeard(0, 2) refused -15
            firstHeard(0, -1) refused -15
            firstHeard(-1, 0) refused -16
            firstHeard(10000, 1) refused -16
            """);
        in(WORLD, 27, FIRST, "firstHeard(-1, 2) refused -15\nfirstHeard(10000, -1) refused -15\n");
    }

    private static void nights() {
        String world = WORLD + "row(2, 2, 41)\n";
        in(world, 28, "-11 also the HILL; -12; -13; -14 n; -15 fewer elements; -16 n above 40 (counted as -1 to -6)", """
            night(7, 0, 1) refused -11
            night(-1, 0, 1) refused -11
            night(0, 8, 1) refused -11
            night(0, -1, 1) refused -11
            night(0, 5, 1) refused -12
            night(0, 4, 1) refused -13
            night(0, 0, -1) refused -14
            night(0, 0, 5) refused -15
            night(0, 2, 41) refused -16
            """);
        in(world, 28, FIRST, """
            night(7, 8, 1) refused -11
            night(7, 5, 1) refused -11
            night(7, 4, 1) refused -11
            night(7, 0, -1) refused -11
            night(7, 0, 5) refused -11
            night(7, 2, 41) refused -11
            night(0, 8, -1) refused -11
            night(0, 8, 41) refused -11
            night(0, 5, -1) refused -12
            night(0, 5, 5) refused -12
            night(0, 5, 41) refused -12
            night(0, 4, -1) refused -13
            night(0, 4, 1) refused -13
            night(0, 4, 41) refused -13
            night(0, 2, MIN) refused -14
            night(0, 0, 41) refused -15
            night(0, 2, 42) refused -15
            """);
    }

    private static void went() {
        in(WORLD, 31, "-6", "hours(0) refused -6\nhours(501) refused -6\nhours(-1) refused -6\n");
        in(WORLD, 32, "-5 no such one", "burn(5) refused -5\nburn(-1) refused -5\n");
        in(WORLD, 33, "-6", "dry(-1) refused -6\ndry(101) refused -6\n");
        in(WORLD, 34, "-6", "drought(0) refused -6\ndrought(201) refused -6\ndrought(-1) refused -6\n");
        in(WORLD.replace("image()", ""), 39, "-6 there is none", "restore() refused -6\n");
    }

    private static void neverRefused() {
        String none = """
            status(11) = 0
            status(12) = 0
            status(13) = 0
            status(14) = 0
            status(15) = 0
            status(16) = 0
            status(17) = 0
            """;
        String full = FULL;
        Edges.edge(5, "nothing is refused", full, "element(8, 0) = 0", "element(4, 0) = 0", "element(5, 0) = 0", "element(0, -1) = 0", none);
        Edges.edge(7, "nothing is refused", full, "holds(8) = NONE", "holds(-1) = NONE", none);
        Edges.edge(17, "nothing is refused", full, "fault() = NONE", none);
        Edges.edge(30, "nothing is refused", full, "postage() = 324", none);
        Edges.edge(32, "0 is no refusal", full, "burn(0) = 1", "burn(0) = 0", none);
        Edges.edge(35, "nothing is refused", full, "seed(MIN) = 1", "seed(MAX) = -2147483648", none);
        Edges.edge(36, "nothing is refused", full, "act(8, 0, 1) = 0", "act(0, 3, 1) = 0", none);
        Edges.edge(37, "nothing is refused", full, "trace(-1) = NONE", "trace(20) = NONE", none);
        Edges.edge(38, "nothing is refused", full, "image() = 8", "image() = 8", none);
        Edges.edge(40, "nothing is refused", full, "status(10) = NONE", "status(-1) = NONE", "status(18) = NONE", none);
        Edges.edge(21, "NONE is no refusal", "3 x hill(0, 0)", "latest(0, 1, 1, 9) = NONE", "lightest(0, 1, 9) = NONE",
            "handIn(1, 0, 1, 1, 1) = NONE", "was(1, 0, 1, 1, 1) = NONE", "firstHeard(1, 0) = NONE", none);
    }
}
