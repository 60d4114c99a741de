/** Promises 18 to 30: the edges of what comes of it. Nothing is changed by what is asked. */
public final class QuestionEdgesTest {
    private static final String PLAIN = "3 x hill(0, 0)\n";

    /**
     * A STORM that is at HILL 0 each 54 HOURS, takes one LETTER up there, and says it at HILL 1 nine HOURS
     * later: those of nine LETTERS at 63, 117, .. 495; that of a tenth at 549.
     */
    private static final String SLOW = PLAIN + "put(0, 0: 0 1 2 1 2 1)\nstorm(0, 6, 9, 99, 1)\n9 x letter(5, 0, 1, 9)\n";
    private static final String TENTH = SLOW + "letter(7, 0, 1, 9) = 9\n";

    /** At 1, 2, 0, 1, .. each HOUR: from 0 to 1 three HOURS at most, then one on the way. */
    private static final String ROUND = PLAIN + "put(0, 0: 0 1 2)\nstorm(0, 3, 1, 60, 1)\n";

    public static void main(String[] args) {
        behind();
        arrives();
        handIn();
        latest();
        lightest();
        was();
        wasOfItsOwnWay();
        wasInValleys();
        needs();
        free();
        reach();
        loudest();
        piles();
        firstHeard();
        nights();
        longNights();
        meets();
        postage();
        oneQuestionAfterTheOther();
        lastOfAll();
        Edges.end("QuestionEdgesTest");
    }

    private static void behind() {
        Edges.edge(18, "BEHIND n HOURS (0 to 500): of 0 as it is", ROUND, "letter(5, 0, 2, 9)", "hours(3)", "behind(0, 0, 0) = 100",
            "behind(0, 0, 1) = 5", "behind(0, 1, 0) = 100", "behind(0, 2, 0) = 200");
        Edges.edge(18, "BEHIND n HOURS (0 to 500)", TENTH, "behind(0, 0, 0) = 0", "behind(9, 500, 0) = 0", "behind(8, 500, 0) = 200",
            "behind(0, -1, 0) refused -6", "behind(0, 501, 0) refused -6", "behind(0, -1, 1) refused -6",
            "behind(0, 501, 1) refused -6", "behind(0, MAX, 0) refused -6", "behind(0, MIN, 0) refused -6");
        Edges.edge(18, "BEHIND 500 HOURS, neither 499 nor 501", TENTH, "hours(39)", "behind(9, 500, 0) = 0", "hours(1)",
            "behind(9, 500, 0) = 100", "hours(8)", "behind(9, 500, 0) = 100", "hours(1)", "behind(9, 500, 0) = 200",
            "behind(9, 499, 0) = 100");
        Edges.edge(18, "-5 also no such LETTER", TENTH, "behind(9, 0, 1) = 7", "behind(10, 0, 0) refused -5",
            "behind(-1, 0, 0) refused -5", "behind(MAX, 0, 1) refused -5", "behind(MIN, 0, 1) refused -5");
        Edges.edge(18, "-5: another what", TENTH, "behind(0, 1, 0) = 0", "behind(0, 1, 1) = 5", "behind(0, 1, -1) refused -5",
            "behind(0, 1, 2) refused -5", "behind(0, 1, MAX) refused -5", "behind(0, 1, MIN) refused -5");
        Edges.edge(18, "where a LETTER is: burnt and ARRIVED stay so", ROUND, "letter(5, 0, 1, 9)", "letter(6, 0, 1, 9)", "burn(1)",
            "behind(1, 0, 0) = 300", "behind(1, 500, 0) = 300", "behind(1, 500, 1) = 6", "hours(4)", "behind(0, 0, 0) = 200",
            "behind(0, 500, 0) = 200");
        Edges.edge(18, "its WORD: shorter and shorter", "hill(0, 0)", "hill(2, 0)", "hill(0, 0)", "put(0, 0: 1 0)",
            "storm(0, 2, 1, 9, 9)", "letter(9876, 0, 2, 9)", "behind(0, 1, 1) = 9876", "behind(0, 2, 1) = 987", "behind(0, 4, 1) = 98",
            "behind(0, 8, 1) = 0", "behind(0, 500, 1) = 0", "letterOf(0, 0) = 9876");
        Edges.edge(18, "nothing is changed", TENTH, "behind(9, 500, 0) = 0", "status(5) = 0", "status(8) = 0", "letterOf(0, 4) = 0");
    }

    private static void arrives() {
        Edges.edge(19, "500 more at most: not 501", TENTH, "hours(48)", "arrives(9) = NONE", "arrives(8) = 495");
        Edges.edge(19, "500 more at most: 500", TENTH, "hours(49)", "arrives(9) = 549");
        Edges.edge(19, "its HOUR, if it has, however long ago", SLOW, "hours(63)", "arrives(0) = 63", "hours(500)", "arrives(0) = 63",
            "hours(500)", "arrives(0) = 63", "arrives(8) = 495");
        Edges.edge(19, "in the next HOUR", SLOW, "hours(62)", "arrives(0) = 63");
        Edges.edge(19, "NONE: burnt ones never", SLOW, "burn(0)", "arrives(0) = NONE", "arrives(1) = 63");
        Edges.edge(19, "NONE: of no STORMS", PLAIN, "letter(5, 0, 1, 9)", "arrives(0) = NONE");
        Edges.edge(19, "-15 no such LETTER", TENTH, "arrives(0) = 63", "arrives(10) refused -15", "arrives(-1) refused -15",
            "arrives(MAX) refused -15", "arrives(MIN) refused -15");
        Edges.edge(19, "-15 no such LETTER: none at all (counted as -5)", "arrives(0) refused -15", "status(15) = 1");
    }

    private static void handIn() {
        Edges.edge(20, "behind n HOURS (0 to 99)", ROUND, "handIn(5, 0, 2, 9, 0) = 5", "handIn(5, 0, 2, 9, 2) = 5",
            "handIn(5, 0, 2, 9, 3) = 8", "handIn(5, 0, 2, 9, 99) = 104", "handIn(5, 0, 2, 9, -1) refused -16",
            "handIn(5, 0, 2, 9, 100) refused -16", "handIn(5, 0, 2, 9, MAX) refused -16", "handIn(5, 0, 2, 9, MIN) refused -16");
        Edges.edge(20, "HAND IN looks 500 HOURS on from when it is handed in: not 501", SLOW, "handIn(5, 0, 1, 9, 0) = NONE",
            "handIn(5, 0, 1, 9, 48) = NONE");
        Edges.edge(20, "HAND IN looks 500 HOURS on from when it is handed in: 500", SLOW, "handIn(5, 0, 1, 9, 49) = 549",
            "handIn(5, 0, 1, 9, 99) = 549", "hours(48)", "handIn(5, 0, 1, 9, 0) = NONE", "handIn(5, 0, 1, 9, 1) = 549");
        Edges.edge(20, "a WORD (0 to 9999)", ROUND, "handIn(0, 0, 2, 9, 0) = 5", "handIn(9999, 0, 2, 9, 0) = 5",
            "handIn(-1, 0, 2, 9, 0) refused -16", "handIn(10000, 0, 2, 9, 0) refused -16");
        Edges.edge(20, "WEIGHT (1 to 99)", ROUND, "handIn(5, 0, 2, 1, 0) = 5", "handIn(5, 0, 2, 60, 0) = 5",
            "handIn(5, 0, 2, 61, 0) = NONE", "handIn(5, 0, 2, 99, 0) = NONE", "handIn(5, 0, 2, 0, 0) refused -16",
            "handIn(5, 0, 2, 100, 0) refused -16");
        Edges.edge(20, "-11 HILLS", ROUND, "handIn(5, 3, 2, 9, 0) refused -11", "handIn(5, 0, 3, 9, 0) refused -11",
            "handIn(5, -1, 2, 9, 0) refused -11", "handIn(5, 0, -1, 9, 0) refused -11", "handIn(5, 2, 0, 9, 0) = 3");
        Edges.edge(20, "-16 also the same", ROUND, "handIn(5, 0, 0, 9, 0) refused -16", "handIn(5, 2, 2, 9, 0) refused -16");
        Edges.edge(20, "number as the next one: the eleventh comes behind those of its WEIGHT", ROUND, "letter(5, 0, 2, 9)",
            "handIn(5, 0, 2, 9, 0) = 8", "handIn(5, 0, 2, 10, 0) = 5", "handIn(5, 0, 2, 8, 0) = 8");
        Edges.edge(20, "the twelfth may be handed in; FULL of LETTERS: -17", ROUND, "11 x letter(5, 1, 0, 9)",
            "handIn(5, 0, 2, 60, 0) = 5", "letter(5, 1, 0, 9)", "handIn(5, 0, 2, 60, 0) refused -17");
        Edges.edge(20, "it is not handed in truly", ROUND, "handIn(5, 0, 2, 9, 99) = 104", "status(2) = 0", "status(5) = 0",
            "hillOf(0, 2) = 0", "status(8) = 0");
    }

    private static void latest() {
        Edges.edge(21, "the most HOURS (0 to 99): 0", ROUND, "hours(2)", "latest(0, 2, 9, 5) = 0", "latest(0, 2, 9, 4) = NONE");
        Edges.edge(21, "the most HOURS (0 to 99): 99", ROUND, "latest(0, 2, 9, 104) = 99", "latest(0, 2, 9, 103) = 98",
            "latest(0, 2, 9, 105) = 99", "latest(0, 2, 9, MAX) = 99");
        Edges.edge(21, "to be there by a told HOUR: at it", ROUND, "latest(0, 2, 9, 20) = 17", "latest(0, 2, 9, 19) = 14",
            "latest(0, 2, 9, 18) = 14", "latest(0, 2, 9, 17) = 14", "latest(0, 2, 9, 16) = 11");
        Edges.edge(21, "NONE: by an HOUR that is gone", ROUND, "hours(50)", "latest(0, 2, 9, 50) = NONE", "latest(0, 2, 9, 5) = NONE",
            "latest(0, 2, 9, -1) = NONE", "latest(0, 2, 9, MIN) = NONE");
        Edges.edge(21, "NONE: too heavy", ROUND, "latest(0, 2, 60, 500) = 99", "latest(0, 2, 61, 500) = NONE");
        // storm 0 is at 0 in odd HOURS and gives nothing away again; storm 1 is there at 2, 8, ..
        Edges.edge(21, "the most HOURS, though behind fewer it would not be there", "4 x hill(0, 0)", "put(0, 0: 3 0)",
            "put(1, 0: 2 0 1)", "storm(0, 2, 1, 99, 9)", "storm(1, 3, 2, 99, 9)", "handIn(5, 0, 1, 9, 0) = NONE",
            "handIn(5, 0, 1, 9, 1) = 4", "latest(0, 1, 9, 3) = NONE", "latest(0, 1, 9, 4) = 1", "latest(0, 1, 9, 9) = 1",
            "latest(0, 1, 9, 10) = 7");
        // ten lie there: the eleventh is there at 603
        Edges.edge(21, "looks 500 HOURS on from when it is handed in: not 501", TENTH, "latest(0, 1, 9, MAX) = NONE", "hours(3)",
            "latest(0, 1, 9, MAX) = NONE");
        Edges.edge(21, "looks 500 HOURS on from when it is handed in: 500", TENTH, "hours(4)", "latest(0, 1, 9, 603) = 99",
            "latest(0, 1, 9, 602) = NONE");
        Edges.edge(21, "WEIGHT (1 to 99)", ROUND, "latest(0, 2, 1, 20) = 17", "latest(0, 2, 0, 20) refused -16",
            "latest(0, 2, 100, 20) refused -16", "latest(0, 2, MAX, 20) refused -16", "latest(0, 2, MIN, 20) refused -16");
        Edges.edge(21, "-11 HILLS", ROUND, "latest(3, 2, 9, 20) refused -11", "latest(0, 3, 9, 20) refused -11",
            "latest(-1, 2, 9, 20) refused -11", "latest(0, -1, 9, 20) refused -11");
        Edges.edge(21, "-16 also the same", ROUND, "latest(0, 0, 9, 20) refused -16", "latest(2, 2, 9, 20) refused -16");
        Edges.edge(21, "-17 FULL of LETTERS", ROUND, "11 x letter(5, 1, 0, 9)", "latest(0, 2, 60, 8) = 5", "letter(5, 1, 0, 9)",
            "latest(0, 2, 60, 8) refused -17");
    }

    private static void lightest() {
        Edges.edge(22, "the least WEIGHT: 1", ROUND, "lightest(0, 2, 5) = 1", "lightest(0, 2, MAX) = 1");
        Edges.edge(22, "by a told HOUR: at it, not behind it", ROUND, "lightest(0, 2, 5) = 1", "lightest(0, 2, 4) = NONE",
            "lightest(0, 2, 0) = NONE", "lightest(0, 2, -1) = NONE", "lightest(0, 2, MIN) = NONE");
        Edges.edge(22, "the least WEIGHT: 99", PLAIN, "put(0, 0: 0 1 2)", "storm(0, 3, 1, 99, 1)", "letter(5, 0, 2, 98)",
            "lightest(0, 2, 5) = 99", "lightest(0, 2, 7) = 99", "lightest(0, 2, 8) = 1");
        Edges.edge(22, "NONE: 100 can't be", PLAIN, "put(0, 0: 0 1 2)", "storm(0, 3, 1, 99, 1)", "letter(5, 0, 2, 99)",
            "lightest(0, 2, 7) = NONE", "lightest(0, 2, 8) = 1");
        Edges.edge(22, "NONE: heavier than FORCE can't be", ROUND, "letter(5, 0, 2, 60)", "lightest(0, 2, 7) = NONE",
            "lightest(0, 2, 8) = 1");
        Edges.edge(22, "within 500 HOURS: not 501", SLOW, "hours(48)", "lightest(0, 1, 547) = 10", "burn(0)", "lightest(0, 1, MAX) = 1");
        // nine of the most WEIGHT ahead of it
        String heavy = PLAIN + "put(0, 0: 0 1 2 1 2 1)\nstorm(0, 6, 9, 99, 1)\n9 x letter(5, 0, 1, 99)\n";
        Edges.edge(22, "within 500 HOURS: not 501", heavy, "hours(48)", "lightest(0, 1, MAX) = NONE");
        Edges.edge(22, "within 500 HOURS: 500", heavy, "hours(49)", "lightest(0, 1, MAX) = 1", "lightest(0, 1, 549) = 1",
            "lightest(0, 1, 548) = NONE");
        Edges.edge(22, "-11 HILLS", ROUND, "lightest(3, 2, 9) refused -11", "lightest(0, 3, 9) refused -11",
            "lightest(-1, 2, 9) refused -11", "lightest(0, -1, 9) refused -11");
        Edges.edge(22, "-16 also the same", ROUND, "lightest(0, 0, 9) refused -16", "lightest(2, 2, 9) refused -16");
        Edges.edge(22, "-17 FULL of LETTERS", ROUND, "11 x letter(5, 1, 0, 9)", "lightest(0, 2, 5) = 10", "letter(5, 1, 0, 9)",
            "lightest(0, 2, 5) refused -17");
    }

    private static void was() {
        Edges.edge(23, "WORDS (0 to 9999): as it was, one", ROUND, "was(0, 0, 2, 9, 0) = 1", "was(0, 0, 2, 9, 1) = 0",
            "was(9999, 0, 2, 9, 0) = 1", "was(9999, 0, 2, 9, 1) = 9999", "was(-1, 0, 2, 9, 0) refused -16",
            "was(10000, 0, 2, 9, 0) refused -16", "was(MAX, 0, 2, 9, 1) refused -16", "was(MIN, 0, 2, 9, 1) refused -16");
        String hollow = "hill(0, 0)\nhill(2, 0)\nput(0, 0: 1 0)\nstorm(0, 2, 1, 60, 9)\n";
        Edges.edge(23, "at a HOLLOW: ten, of 0 too", hollow, "was(0, 0, 1, 9, 0) = 10", "was(0, 0, 1, 9, 1) = 0", "was(1, 0, 1, 9, 0) = 10",
            "was(1, 0, 1, 9, 1) = 10");
        Edges.edge(23, "at a HOLLOW: the last that it becomes, and the first that it doesn't", hollow, "was(999, 0, 1, 9, 0) = 10",
            "was(999, 0, 1, 9, 1) = 9990", "was(1000, 0, 1, 9, 0) = 0", "was(1000, 0, 1, 9, 1) = NONE", "was(9999, 0, 1, 9, 0) = 0",
            "was(9999, 0, 1, 9, 1) = NONE");
        String hollows = "hill(0, 0)\n4 x hill(2, 0)\nput(0, 0: 1 0 1 2 3 4)\nstorm(0, 6, 1, 60, 9)\n";
        Edges.edge(23, "at four HOLLOWS all become 0", hollows, "was(0, 0, 4, 9, 0) = 10000", "was(0, 0, 4, 9, 1) = 0",
            "was(1, 0, 4, 9, 0) = 0", "was(1, 0, 4, 9, 1) = NONE", "was(9, 0, 3, 9, 0) = 1000", "was(9, 0, 3, 9, 1) = 9000",
            "was(10, 0, 3, 9, 0) = 0");
        Edges.edge(23, "NONE: it never arrives", hollow, "was(1, 0, 1, 60, 0) = 10", "was(1, 0, 1, 61, 0) = 0",
            "was(1, 0, 1, 61, 1) = NONE");
        Edges.edge(23, "NONE: it doesn't arrive within 500 HOURS: 501", SLOW, "hours(48)", "was(7, 0, 1, 9, 0) = 0",
            "was(7, 0, 1, 9, 1) = NONE");
        Edges.edge(23, "it arrives within 500 HOURS: 500", SLOW, "hours(49)", "was(7, 0, 1, 9, 0) = 1", "was(7, 0, 1, 9, 1) = 7");
        Edges.edge(23, "-15 another what", ROUND, "was(1, 0, 1, 1, 0) = 1", "was(1, 0, 1, 1, 1) = 1", "was(1, 0, 1, 1, -1) refused -15",
            "was(1, 0, 1, 1, 2) refused -15", "was(1, 0, 1, 1, MAX) refused -15", "was(1, 0, 1, 1, MIN) refused -15");
        Edges.edge(23, "WEIGHT (1 to 99)", ROUND, "was(1, 0, 1, 99, 0) = 0", "was(1, 0, 1, 0, 0) refused -16",
            "was(1, 0, 1, 100, 0) refused -16");
        Edges.edge(23, "-11 HILLS", ROUND, "was(1, 3, 1, 1, 0) refused -11", "was(1, 0, 3, 1, 0) refused -11",
            "was(1, -1, 1, 1, 0) refused -11", "was(1, 0, -1, 1, 0) refused -11");
        Edges.edge(23, "-16 also the same", ROUND, "was(1, 0, 0, 1, 0) refused -16", "was(1, 2, 2, 1, 1) refused -16");
        Edges.edge(23, "-17 FULL of LETTERS", ROUND, "11 x letter(5, 1, 0, 9)", "was(5, 0, 1, 60, 0) = 1", "letter(5, 1, 0, 9)",
            "was(5, 0, 1, 60, 0) refused -17");
    }

    private static void wasOfItsOwnWay() {
        // another LETTER goes from 2 to 0 alone; this one from 0 to the HOLLOW
        Edges.edge(23, "as which a LETTER would arrive: by its own HILLS, not those of another", "hill(0, 0)", "hill(2, 0)", "hill(0, 0)",
            "put(0, 0: 1 2 0)", "storm(0, 3, 1, 9, 9)", "letter(5, 2, 0, 9)", "was(5, 0, 1, 9, 0) = 10", "was(5, 0, 1, 9, 1) = 50",
            "was(5, 2, 0, 9, 0) = 1");
        // another LETTER goes to and fro between 0 and the HOLLOW
        Edges.edge(23, "as which a LETTER would arrive: what others become counts nothing", "hill(0, 0)", "hill(2, 0)",
            "2 x hill(0, 0)", "put(0, 0: 1 0)", "put(1, 0: 3 2)", "storm(0, 2, 1, 9, 9)", "storm(1, 2, 1, 9, 9)", "letter(5, 0, 3, 9)",
            "was(5, 2, 3, 9, 0) = 1", "was(5, 2, 3, 9, 1) = 5");
        Edges.edge(23, "at the HILL that it is from it isn't said", "hill(2, 0)", "2 x hill(0, 0)", "put(0, 0: 2 0 1)",
            "storm(0, 3, 1, 9, 9)", "was(5, 0, 1, 9, 0) = 1", "was(5, 0, 1, 9, 1) = 5", "was(5, 1, 2, 9, 0) = 1", "was(5, 2, 1, 9, 0) = 10",
            "was(5, 1, 2, 9, 0) = 1");
    }

    private static void wasInValleys() {
        String valley = "hill(0, 0)\nhill(5, 9)\nput(0, 0: 1 0)\nstorm(0, 2, 1, 60, 9)\n";
        Edges.edge(23, "at a VALLEY: the least that it becomes, and what is below", valley, "was(9, 0, 1, 9, 0) = 10",
            "was(9, 0, 1, 9, 1) = 0", "was(8, 0, 1, 9, 0) = 0", "was(8, 0, 1, 9, 1) = NONE", "was(0, 0, 1, 9, 0) = 0",
            "was(0, 0, 1, 9, 1) = NONE");
        Edges.edge(23, "at a VALLEY: the most that it becomes, and what is above", valley, "was(1008, 0, 1, 9, 0) = 10",
            "was(1008, 0, 1, 9, 1) = 9990", "was(1009, 0, 1, 9, 0) = 0", "was(1009, 0, 1, 9, 1) = NONE", "was(9999, 0, 1, 9, 0) = 0");
        // 0 to 99 becomes 9 to 18, then 0 or 1 and 9: 9 and 10
        String twice = "hill(0, 0)\n2 x hill(5, 9)\nput(0, 0: 1 0 1 2)\nstorm(0, 4, 1, 60, 9)\n";
        Edges.edge(23, "at two VALLEYS: the least is of fewer", twice, "was(8, 0, 2, 9, 0) = 0", "was(9, 0, 2, 9, 0) = 10",
            "was(9, 0, 2, 9, 1) = 0", "was(10, 0, 2, 9, 0) = 100", "was(10, 0, 2, 9, 1) = 10");
        // 9999 becomes 1008, then 109: of 109 those that became 1000 to 1008
        Edges.edge(23, "at two VALLEYS: the most is of fewer", twice, "was(109, 0, 2, 9, 0) = 90", "was(109, 0, 2, 9, 1) = 9910",
            "was(110, 0, 2, 9, 0) = 0", "was(108, 0, 2, 9, 0) = 100", "was(108, 0, 2, 9, 1) = 9810");
    }

    private static void needs() {
        Edges.edge(24, "-15 no such LETTER", TENTH, "needs(9, 0) = 1", "needs(10, 0) refused -15", "needs(-1, 0) refused -15",
            "needs(MAX, 1) refused -15", "needs(MIN, 1) refused -15");
        Edges.edge(24, "-15 another what", TENTH, "needs(0, 0) = 1", "needs(0, 1) = NONE", "needs(0, -1) refused -15",
            "needs(0, 2) refused -15", "needs(0, MAX) refused -15", "needs(0, MIN) refused -15");
        // a second STORM fetches all that lie at 0 within some HOURS
        String fast = "put(1, 0: 0 1)\nstorm(1, 2, 1, 99, 9) = 1\n";
        Edges.edge(24, "without which it would not arrive (within 500 HOURS): 501", TENTH, "hours(48)", fast, "needs(9, 0) = 2");
        Edges.edge(24, "without which it would not arrive (within 500 HOURS): 500", TENTH, "hours(49)", fast, "needs(9, 0) = 0");
        Edges.edge(24, "a LETTER that ARRIVED needs no STORM", TENTH, fast, "hours(9)", "letterOf(0, 4) = 200", "needs(0, 0) = 0",
            "needs(0, 1) = NONE");
        Edges.edge(24, "one that is burnt all of them", TENTH, fast, "burn(0)", "needs(0, 0) = 3", "needs(0, 1) = NONE");
        Edges.edge(24, "all of them: of none none, of four all four", PLAIN, "letter(5, 0, 1, 9)", "burn(0)", "needs(0, 0) = 0",
            "put(0, 0: 0 1)", "4 x storm(0, 2, 1, 99, 9)", "needs(0, 0) = 15");
        Edges.edge(24, "one that never arrives needs all of them, too", PLAIN, "letter(5, 0, 2, 9)", "put(0, 0: 0 1)",
            "4 x storm(0, 2, 1, 99, 9)", "needs(0, 0) = 15", "needs(0, 1) = NONE");
        Edges.edge(24, "without which, alone: of two that do the same none is needed", PLAIN, "letter(5, 0, 1, 9)", "put(0, 0: 0 1)",
            "2 x storm(0, 2, 1, 99, 9)", "needs(0, 0) = 0", "needs(0, 1) = NONE");
        Edges.edge(24, "without the STORM that it is in", PLAIN, "letter(5, 0, 2, 9)", "put(0, 0: 1 0 2)", "put(1, 0: 0 2)",
            "storm(0, 3, 1, 99, 9)", "storm(1, 2, 1, 99, 9)", "hours(1)", "letterOf(0, 4) = 100", "needs(0, 0) = 1");
    }

    private static void free() {
        // storm 1 of FORCE 5 holds the tenth for ever, between 0 and 2
        String held = SLOW + "letter(7, 0, 1, 5) = 9\nput(1, 0: 0 2)\nstorm(1, 2, 1, 5, 1) = 1\n";
        Edges.edge(24, "FREE: within 500 HOURS: not 501", held, "hours(48)", "arrives(9) = NONE", "needs(9, 1) = NONE",
            "needs(9, 0) = 3");
        // from hour 49 on storm 1 is at 2 at 49, 51, .. and has the letter: without it it stays there
        Edges.edge(24, "FREE: within 500 HOURS: 500", SLOW, "letter(7, 0, 1, 5) = 9", "hours(49)", "put(1, 0: 0 2)",
            "storm(1, 2, 1, 5, 1) = 1", "arrives(9) = NONE", "needs(9, 1) = 1", "needs(9, 0) = 1");
        Edges.edge(24, "FREE: within 500 HOURS: not 501", SLOW, "letter(7, 0, 1, 5) = 9", "hours(48)", "put(1, 0: 0 2)",
            "storm(1, 2, 1, 5, 1) = 1", "arrives(9) = NONE", "needs(9, 1) = NONE", "needs(9, 0) = 3");
        // each of the first two takes it the long way, by 2
        String two = PLAIN + "letter(5, 0, 1, 9)\nput(0, 0: 2 0)\nput(1, 0: 2 0 1)\n";
        Edges.edge(24, "NONE: none is sooner than with all", two, "storm(1, 3, 1, 99, 9)", "storm(1, 3, 1, 99, 9)", "arrives(0) = 2",
            "needs(0, 1) = NONE");
        Edges.edge(24, "the STORM without which it would arrive soonest", two, "storm(0, 2, 1, 99, 9)", "storm(1, 3, 1, 99, 9)",
            "arrives(0) = NONE", "needs(0, 1) = 0", "needs(0, 0) = 2");
        Edges.edge(24, "of several the first", "4 x hill(0, 0)", "put(0, 0: 3 0)", "put(1, 0: 0 3)", "put(2, 0: 1 0 3)",
            "storm(0, 2, 1, 99, 1)", "storm(1, 2, 2, 99, 1)", "storm(2, 3, 2, 99, 1)", "letter(0, 3, 1, 2)", "letter(1, 3, 1, 3)",
            "arrives(0) = NONE", "needs(0, 1) = 0", "needs(0, 0) = 4");
        Edges.edge(24, "NONE: no STORMS", PLAIN, "letter(5, 0, 1, 9)", "needs(0, 1) = NONE", "needs(0, 0) = 0");
        Edges.edge(24, "the fourth", PLAIN, "letter(5, 0, 1, 9)", "put(0, 0: 2 0)", "put(1, 0: 2 0 1)",
            "3 x storm(1, 3, 9, 8, 9)", "storm(0, 2, 1, 9, 9)", "needs(0, 1) = NONE", "needs(0, 0) = 15");
    }

    private static void reach() {
        String storms = """
            6 x hill(0, 0)
            put(0, 0: 1 2 3)
            put(1, 0: 3 4)
            put(2, 0: 0 1)
            storm(0, 3, 9, 60, 1)
            storm(1, 2, 9, 99, 1)
            storm(2, 2, 9, 1, 1)
            """;
        Edges.edge(25, "STORMS with FORCE w at least: w, and w less 1", storms, "reach(1, 60) = 30", "reach(1, 61) = 2",
            "reach(1, 59) = 30", "reach(3, 61) = 24", "reach(4, 99) = 24");
        Edges.edge(25, "WEIGHT w 1 to 99", storms, "reach(0, 1) = 31", "reach(0, 2) = 1", "reach(3, 99) = 24", "reach(0, 0) refused -6",
            "reach(0, 100) refused -6", "reach(0, -1) refused -6", "reach(0, MAX) refused -6", "reach(0, MIN) refused -6");
        Edges.edge(25, "itself, too: though no STORM is there", storms, "reach(5, 1) = 32", "reach(0, 99) = 1");
        Edges.edge(25, "itself, too: no STORMS at all", "8 x hill(0, 0)", "reach(0, 1) = 1", "reach(7, 99) = 128");
        Edges.edge(25, "-1: no such HILL", storms, "reach(5, 9) = 32", "reach(6, 9) refused -1", "reach(-1, 9) refused -1",
            "reach(MAX, 9) refused -1", "reach(MIN, 9) refused -1");
        Edges.edge(25, "behind the last the first", PLAIN, "put(0, 0: 0 1 2)", "storm(0, 3, 9, 9, 1)", "reach(2, 9) = 7", "reach(1, 9) = 7");
        Edges.edge(25, "on and on: all eight, one STORM after the other", "8 x hill(0, 0)", "put(0, 0: 6 7)", "put(1, 0: 4 5 6)",
            "put(2, 0: 2 3 4)", "put(3, 0: 0 1 2)", "storm(0, 2, 9, 9, 1)", "storm(1, 3, 9, 9, 1)", "storm(2, 3, 9, 9, 1)",
            "storm(3, 3, 9, 9, 1)", "reach(0, 9) = 255", "reach(7, 9) = 255");
        Edges.edge(25, "however long, whatever there is ROOM for and wherever the STORM is", PLAIN, "put(0, 0: 0 1)",
            "storm(0, 2, 9, 9, 1)", "9 x letter(5, 0, 2, 9)", "hours(9)", "reach(0, 9) = 3", "reach(1, 9) = 3");
    }

    /**
     * At HILL 1, a CAVE with a 7, one LETTER is HEARD nine times, at HOUR 51; at HILL 2 ten LETTERS once each,
     * at 63, 117, .. 549.
     */
    private static final String LOUD = """
        hill(0, 0)
        hill(3, 7)
        3 x hill(0, 0)
        put(0, 0: 0 2 3 2 3 2)
        storm(0, 6, 9, 99, 1)
        put(1, 0: 4 1)
        storm(1, 2, 1, 99, 9)
        10 x letter(5, 0, 2, 9)
        """;

    private static void loudest() {
        Edges.edge(26, "LOUDEST for n HOURS: 499 and 500", LOUD, "hours(49)", "letter(6, 4, 1, 9)", "loudest(500, 0) = 2",
            "loudest(499, 0) = 1", "loudest(2, 0) = 1", "loudest(1, 0) = 0");
        Edges.edge(26, "n 0 to 500", LOUD, "loudest(0, 0) = 0", "loudest(500, 0) = 2", "loudest(-1, 0) refused -6",
            "loudest(501, 0) refused -6", "loudest(MAX, 0) refused -6", "loudest(MIN, 0) refused -6");
        Edges.edge(26, "for 0 HOURS nothing is HEARD: the first", LOUD, "hours(63)", "loudest(0, 0) = 0");
        Edges.edge(26, "at which most is HEARD in them: what was HEARD ahead counts nothing", LOUD, "letter(6, 4, 1, 9)", "hours(62)",
            "status(8) = 9", "loudest(1, 0) = 2");
        Edges.edge(26, "of several the first", LOUD, "hours(49)", "letter(6, 4, 1, 9)", "loudest(499, 0) = 1");
        Edges.edge(26, "of several the first: nothing HEARD at all", "4 x hill(6, 0)", "put(0, 0: 3 2 1)", "storm(0, 3, 1, 99, 9)",
            "letter(6, 2, 0, 9)", "loudest(500, 0) = 0");
        Edges.edge(26, "more than 8 are HEARD", "hill(3, 6)", "hill(3, 9)", "hill(0, 0)", "put(0, 0: 2 0 1)", "storm(0, 3, 1, 99, 9)",
            "letter(6, 2, 1, 9)", "loudest(4, 0) = 0", "loudest(5, 0) = 1");
        Edges.edge(26, "-5 no HILLS", "loudest(0, 0) refused -5", "loudest(500, 1) refused -5", "hill(0, 0)", "loudest(0, 0) = 0",
            "loudest(500, 1) = 0");
        Edges.edge(26, "-5 another what", "hill(0, 0)", "loudest(0, 0) = 0", "loudest(0, 1) = 0", "loudest(0, -1) refused -5",
            "loudest(0, 2) refused -5", "loudest(0, MAX) refused -5", "loudest(0, MIN) refused -5");
        Edges.edge(26, "the last HILL", "8 x hill(0, 0)", "put(0, 0: 6 7)", "storm(0, 2, 1, 99, 9)", "letter(6, 6, 7, 9)",
            "loudest(9, 0) = 7", "letter(6, 7, 6, 9)", "loudest(0, 1) = 6", "burn(0)", "loudest(0, 1) = 7");
    }

    private static void piles() {
        // HILL 3 keeps its LETTER; the tenth is taken up at 540
        String lonely = TENTH + "hill(0, 0)\nletter(8, 3, 0, 9) = 10\n";
        Edges.edge(26, "PILE behind n HOURS: 499 and 500; of several the first", lonely, "hours(40)", "loudest(499, 1) = 0",
            "loudest(500, 1) = 3");
        Edges.edge(26, "PILE: n 0 to 500", lonely, "loudest(0, 1) = 0", "loudest(500, 1) = 0", "loudest(-1, 1) refused -6",
            "loudest(501, 1) refused -6");
        Edges.edge(26, "PILE: none lie anywhere: the first", PLAIN, "loudest(0, 1) = 0", "loudest(500, 1) = 0", "letter(1, 2, 1, 1)",
            "burn(0)", "loudest(0, 1) = 0");
        Edges.edge(26, "PILE: LETTERS in STORMS and those that ARRIVED don't lie there", PLAIN, "put(0, 0: 0 1)",
            "storm(0, 2, 1, 99, 9)", "2 x letter(1, 0, 1, 9)", "letter(1, 2, 1, 9)", "loudest(0, 1) = 0", "loudest(1, 1) = 0",
            "loudest(2, 1) = 2", "loudest(3, 1) = 2");
    }

    private static void firstHeard() {
        Edges.edge(27, "within 500 HOURS: not 501", TENTH, "hours(48)", "firstHeard(7, 0) = NONE", "firstHeard(7, 1) = NONE");
        Edges.edge(27, "within 500 HOURS: 500", TENTH, "hours(49)", "firstHeard(7, 0) = 1", "firstHeard(7, 1) = 549");
        Edges.edge(27, "in the next HOUR; not what was HEARD ahead", TENTH, "hours(62)", "firstHeard(5, 1) = 63", "hours(1)",
            "firstHeard(5, 1) = 117", "hours(432)", "firstHeard(5, 1) = NONE", "firstHeard(5, 0) = NONE");
        Edges.edge(27, "a WORD (0 to 9999)", PLAIN, "put(0, 0: 1 0)", "storm(0, 2, 1, 9, 9)", "letter(0, 0, 1, 9)", "letter(9999, 0, 1, 9)",
            "firstHeard(0, 0) = 1", "firstHeard(9999, 1) = 2", "firstHeard(1, 0) = NONE", "firstHeard(-1, 0) refused -16",
            "firstHeard(10000, 0) refused -16", "firstHeard(MAX, 1) refused -16", "firstHeard(MIN, 1) refused -16");
        Edges.edge(27, "-15 another what", TENTH, "firstHeard(5, 0) = 1", "firstHeard(5, 1) = 63", "firstHeard(5, -1) refused -15",
            "firstHeard(5, 2) refused -15", "firstHeard(5, MAX) refused -15", "firstHeard(5, MIN) refused -15");
        Edges.edge(27, "NONE: no HILLS, no LETTERS", "firstHeard(5, 0) = NONE", "firstHeard(5, 1) = NONE", PLAIN,
            "firstHeard(5, 0) = NONE");
        String slates = "hill(0, 0)\nhill(6, 0)\nhill(4, 1)\nhill(0, 0)\nput(0, 0: 3 0 1 2)\nstorm(0, 4, 1, 99, 9)\n";
        Edges.edge(27, "at which it is HEARD: not under a ROOF, nor a SLATE with 10", slates, "letter(5, 0, 3, 10)",
            "firstHeard(5, 0) = 3", "firstHeard(5, 1) = 4");
        Edges.edge(27, "at which it is HEARD: under a SLATE with 11", slates, "letter(5, 0, 3, 11)", "firstHeard(5, 0) = 2",
            "firstHeard(5, 1) = 3");
        // at HOUR 2 it is HEARD at 3 by storm 0 and at 1 by storm 1
        Edges.edge(27, "of several the first", "4 x hill(0, 0)", "put(0, 0: 2 0 3)", "put(1, 0: 3 0 1)", "storm(0, 3, 1, 99, 1)",
            "storm(1, 3, 1, 99, 1)", "letter(77, 0, 2, 9)", "letter(77, 0, 2, 5)", "firstHeard(77, 0) = 1", "firstHeard(77, 1) = 2");
        // at HOUR 2 it is HEARD at 1 by storm 0, LETTER 1, and at 3 by storm 1, LETTER 0
        Edges.edge(27, "of several the first", "4 x hill(0, 0)", "put(0, 0: 3 0 1)", "put(1, 0: 2 0 3)", "storm(0, 3, 1, 99, 1)",
            "storm(1, 3, 1, 99, 1)", "letter(77, 0, 2, 5)", "letter(77, 0, 2, 9)", "firstHeard(77, 0) = 1", "firstHeard(77, 1) = 2");
        Edges.edge(27, "as it is there: shorter", "hill(0, 0)", "hill(2, 0)", "put(0, 0: 1 0)", "storm(0, 2, 1, 9, 9)",
            "letter(55, 0, 1, 9)", "firstHeard(55, 0) = NONE", "firstHeard(5, 0) = 1", "firstHeard(5, 1) = 2");
    }

    private static void nights() {
        String night = "hill(0, 0)\nhill(1, 0)\nput(0, 0: 1 0)\nstorm(0, 2, 1, 9, 1)\nletter(7, 0, 1, 9)\nletter(8, 0, 1, 8)\n";
        Edges.edge(28, "the first n elements (0 to 40): of 0 all", night, "put(1, 0: 9)", "night(1, 1, 0) = NONE", "night(1, 1, 1) = 0",
            "row(2, 0, 0)", "night(1, 2, 0) = NONE");
        Edges.edge(28, "the first n elements (0 to 40): 40, not 41", night, "row(1, 0, 41)", "night(1, 1, 40) = 0",
            "night(1, 1, 41) refused -16");
        Edges.edge(28, "-16 n above 40", night, "row(1, 0, 160)", "night(1, 1, 41) refused -16", "night(1, 1, 160) refused -16",
            "night(1, 1, 40) = 0");
        Edges.edge(28, "-15 fewer elements", night, "put(1, 0: 7 7)", "night(1, 1, 2) = NONE", "night(1, 1, 3) refused -15",
            "night(1, 1, 41) refused -15", "night(1, 1, MAX) refused -15", "row(2, 0, 0)", "night(1, 2, 1) refused -15");
        Edges.edge(28, "-14 n", night, "put(1, 0: 7 7)", "night(1, 1, -1) refused -14", "night(1, 1, MIN) refused -14");
        Edges.edge(28, "-13: a SHELF that holds NOTHING", night, "night(1, 5, 0) refused -13", "show(5, NONE)", "night(1, 5, 0) refused -13");
        Edges.edge(28, "-12: a HILL where a ROW is wanted", night, "show(5, 0)", "night(1, 5, 0) refused -12");
        Edges.edge(28, "-11: no such SHELF", night, "put(7, 0: 7)", "night(1, 7, 1) = NONE", "night(1, 8, 1) refused -11",
            "night(1, -1, 1) refused -11");
        Edges.edge(28, "-11 also the HILL", night, "put(1, 0: 7)", "night(0, 1, 1) = 0", "night(2, 1, 1) refused -11",
            "night(-1, 1, 1) refused -11", "night(MAX, 1, 1) refused -11", "night(MIN, 1, 1) refused -11");
        Edges.edge(28, "how many of them, from the first on: one, three, all", night, "put(1, 0: 7 8)", "night(1, 1, 2) = 1",
            "put(1, 0: 7 7 8 9)", "night(1, 1, 4) = 3", "put(1, 0: 7 7 8 8)", "night(1, 1, 4) = NONE");
        Edges.edge(28, "one WORD more than is HEARD", night, "put(1, 0: 7 7 8 8 8)", "night(1, 1, 5) = 4", "night(1, 1, 4) = NONE");
        Edges.edge(28, "looked at as long as what is HEARD there is just that: not when one is left out", night, "put(1, 0: 7 8 8)",
            "night(1, 1, 3) = 1", "put(1, 0: 8 8)", "night(1, 1, 2) = 0");
        Edges.edge(28, "from now on", night, "put(1, 0: 7 7)", "hours(1)", "night(1, 1, 2) = NONE", "hours(1)", "night(1, 1, 2) = 0",
            "put(1, 0: 8 8)", "night(1, 1, 2) = NONE");
        // 7 + 2^32 is 7, 7 + 2^31 isn't
        Edges.edge(28, "elements of longs count by their lowest 32 bits", night, "put(1, 3: 4294967303 7)", "night(1, 1, 2) = NONE",
            "put(1, 3: 2147483655 7)", "night(1, 1, 2) = 0");
        Edges.edge(28, "what is no WORD is not HEARD, nor refused", night, "put(1, 2: -1 10000)", "night(1, 1, 1) = 0",
            "put(1, 2: 7 7 10000)", "night(1, 1, 3) = 2");
    }

    private static void longNights() {
        Edges.edge(28, "within 500 HOURS: not 501", TENTH, "put(1, 0: 5 5 5 5 5 5 5 5 5 7)", "hours(48)", "night(1, 1, 10) = 9",
            "night(1, 1, 9) = NONE");
        Edges.edge(28, "within 500 HOURS: 500", TENTH, "put(1, 0: 5 5 5 5 5 5 5 5 5 7)", "hours(49)", "night(1, 1, 10) = NONE");
        String cave = "hill(0, 0)\nhill(3, 9)\nput(0, 0: 1 0)\nstorm(0, 2, 1, 9, 9)\n4 x letter(0, 0, 1, 9)\nrow(1, 0, 41)\n";
        Edges.edge(28, "all 40: NONE", cave, "night(1, 1, 40) = NONE", "set(1, 39, 1)", "night(1, 1, 40) = 39", "night(1, 1, 39) = NONE",
            "set(1, 0, 1)", "night(1, 1, 40) = 0");
    }

    private static void meets() {
        // they are both at 0 up to HOUR 127, and then from 720 on
        String storms = "5 x hill(0, 0)\nput(0, 0: 0 1 2 1 2 1)\nput(1, 0: 0 3 4 3 4)\nstorm(0, 6, 7, 9, 1)\nstorm(1, 5, 8, 9, 1)\n";
        Edges.edge(29, "500 more at most: not 501", storms, "hours(219)", "meet(0, 1) = NONE", "meet(1, 0) = NONE");
        Edges.edge(29, "500 more at most: 500", storms, "hours(220)", "meet(0, 1) = 720", "meet(1, 0) = 720");
        Edges.edge(29, "the next HOUR, not this one", storms, "meet(0, 1) = 1", "hours(126)", "meet(0, 1) = 127", "hours(1)",
            "meet(0, 1) = NONE");
        Edges.edge(29, "-15 no such STORMS", storms, "meet(0, 2) refused -15", "meet(2, 0) refused -15", "meet(-1, 0) refused -15",
            "meet(0, -1) refused -15", "meet(0, MAX) refused -15", "meet(MIN, 0) refused -15", "meet(5, 5) refused -15");
        Edges.edge(29, "-15 the same", storms, "meet(0, 0) refused -15", "meet(1, 1) refused -15");
        Edges.edge(29, "-15: no STORMS at all (counted as -5)", "meet(0, 1) refused -15", "meet(0, 0) refused -15", "status(15) = 2");
        Edges.edge(29, "NONE: never at one HILL", "4 x hill(0, 0)", "put(0, 0: 0 1)", "put(1, 0: 2 3)", "put(2, 0: 1 0)",
            "storm(0, 2, 1, 9, 1)", "storm(1, 2, 1, 9, 1)", "storm(2, 2, 1, 9, 1)", "meet(0, 1) = NONE", "meet(0, 2) = NONE");
        Edges.edge(29, "at one HILL behind it: not while one is still on its turn", PLAIN, "put(0, 0: 0 1)", "put(1, 0: 1 0)",
            "storm(0, 2, 1, 9, 1)", "storm(1, 2, 1, 9, 1)", "meet(0, 1) = NONE", "storm(1, 2, 2, 9, 1)", "meet(0, 2) = 1");
        Edges.edge(29, "the fourth", PLAIN, "put(0, 0: 0 1)", "put(1, 0: 2 0)", "3 x storm(0, 2, 1, 9, 1)", "storm(1, 2, 1, 9, 1)",
            "meet(0, 3) = NONE", "meet(3, 2) = NONE", "meet(0, 2) = 1", "meet(3, 4) refused -15");
    }

    private static void postage() {
        Edges.edge(30, "of no LETTERS", "postage() = 0", PLAIN, "postage() = 0");
        Edges.edge(30, "500 for one that never arrives, times WEIGHT: 1 and 99", PLAIN, "letter(5, 0, 1, 1)", "postage() = 500",
            "letter(5, 0, 1, 99)", "postage() = 50000");
        Edges.edge(30, "500 for one that never arrives: all twelve of 99", PLAIN, "12 x letter(5, 0, 1, 99)", "postage() = 594000");
        Edges.edge(30, "a coin for each HOUR each still takes: the last one", PLAIN, "put(0, 0: 1 0)", "storm(0, 2, 1, 99, 9)",
            "letter(5, 0, 1, 7)", "postage() = 14", "hours(1)", "postage() = 7", "hours(1)", "postage() = 0");
        // nine of WEIGHT 9 at 63, 117, .. 495, in all 2511, and one of 8 at 549
        String last = SLOW + "letter(7, 0, 1, 8) = 9\n";
        Edges.edge(30, "500 for one that takes 501 HOURS", last, "hours(48)", "postage() = 22711");
        Edges.edge(30, "500 for one that takes 500 HOURS", last, "hours(49)", "postage() = 22630");
        Edges.edge(30, "499 for one that takes 499 HOURS", last, "hours(50)", "postage() = 22541");
        Edges.edge(30, "burnt ones cost no POSTAGE", PLAIN, "2 x letter(5, 0, 1, 9)", "burn(1)", "postage() = 4500", "burn(0)", "postage() = 0");
        Edges.edge(30, "of all LETTERS that aren't there yet: not those that ARRIVED", PLAIN, "put(0, 0: 1 0)", "storm(0, 2, 1, 99, 9)",
            "letter(5, 0, 1, 7)", "letter(5, 0, 2, 1)", "hours(2) = 1", "postage() = 500", "hours(3) = 0",
            "postage() = 500");
    }

    /** What NEEDS thinks away and who listened is gone at the next question. */
    private static void oneQuestionAfterTheOther() {
        String[] questions = {"18 behind(0, 5, 0) = 200", "19 arrives(0) = 5", "20 handIn(5, 0, 2, 9, 0) = 8", "21 latest(0, 2, 9, 8) = 5",
            "22 lightest(0, 2, 7) = 1", "23 was(5, 0, 2, 9, 1) = 5", "24 needs(0, 0) = 1", "24 needs(0, 1) = NONE", "25 reach(0, 9) = 7",
            "26 loudest(5, 0) = 1", "26 loudest(2, 1) = 0", "27 firstHeard(5, 1) = 4", "28 night(2, 0, 1) = 0", "29 meet(0, 1) = 5",
            "30 postage() = 45"};
        String world = ROUND + "put(1, 0: 0 2)\nstorm(1, 2, 1, 1, 1)\nletter(5, 0, 2, 9)\n";
        for (String last : questions) {
            StringBuilder run = new StringBuilder(world);
            for (String question : questions) {
                run.append(question.substring(3)).append('\n').append(last.substring(3)).append('\n');
            }
            Edges.edge(Integer.parseInt(last.substring(0, 2)), "nothing is changed, whatever was asked ahead", run.toString(), "status(5) = 0",
                "status(2) = 1", "status(8) = 0");
        }
    }

    /**
     * The twelfth LETTER goes with the fourth STORM by six HILLS, the last of them the eighth HILL, a HOLLOW:
     * taken up at HOUR 6, said at 8, at the HOLLOW at 10, there at 12. The others stay where they are.
     */
    private static final String LAST = """
        7 x hill(0, 0)
        hill(2, 0) = 7
        put(0, 0: 0 1)
        3 x storm(0, 2, 1, 1, 1)
        put(1, 0: 2 3 4 5 6 7)
        storm(1, 6, 2, 40, 1) = 3
        11 x letter(5, 0, 1, 50)
        letter(9876, 5, 2, 40) = 11
        put(2, 1: 987)
        """;

    private static void lastOfAll() {
        Edges.edge(18, "where the last LETTER is, and its WORD", LAST, "behind(11, 5, 0) = 5", "behind(11, 6, 0) = 103",
            "behind(11, 9, 1) = 9876", "behind(11, 10, 1) = 987", "behind(11, 12, 0) = 200");
        Edges.edge(18, "where the last LETTER is, in the last STORM now", LAST, "hours(7)", "behind(11, 0, 0) = 103",
            "behind(11, 2, 1) = 9876", "behind(11, 3, 1) = 987", "behind(11, 5, 0) = 200");
        Edges.edge(19, "the last LETTER arrives", LAST, "arrives(11) = 12", "hours(7)", "arrives(11) = 12");
        Edges.edge(24, "the last LETTER needs the last STORM", LAST, "needs(11, 0) = 8", "needs(11, 1) = NONE", "needs(10, 0) = 15");
        Edges.edge(25, "reach from the last HILL by the last STORM", LAST, "reach(7, 40) = 252", "reach(7, 41) = 128");
        Edges.edge(26, "at the last HILL", LAST, "hours(9)", "loudest(1, 0) = 7", "loudest(3, 0) = 2", "loudest(500, 1) = 0");
        Edges.edge(27, "first heard at the last HILL", LAST, "firstHeard(987, 0) = 7", "firstHeard(987, 1) = 10");
        Edges.edge(28, "a told NIGHT at the last HILL", LAST, "night(7, 2, 1) = NONE", "night(6, 2, 1) = 0");
        Edges.edge(29, "the last STORM meets none", LAST, "meet(0, 3) = NONE", "meet(2, 3) = NONE", "meet(1, 2) = 1");
        Edges.edge(30, "POSTAGE of the last LETTER", LAST, "postage() = 275480", "hours(12)", "postage() = 275000");
    }
}
