/** Promises 16 and 17: the edges of texts and their FAULT. */
public final class TextEdgesTest {
    /** Three HILLS and a LETTER. */
    private static final String SOME = "3 x hill(0, 0)\nletter(5, 0, 1, 9)\n";
    private static final String FULL_OF_HILLS = "8 x hill(0, 0)\n";
    private static final String FULL_OF_STORMS = "3 x hill(0, 0)\nput(0, 0: 0 1)\n4 x storm(0, 2, 1, 1, 1)\n";
    private static final String FULL_OF_LETTERS = "3 x hill(0, 0)\n12 x letter(5, 0, 1, 9)\n";

    public static void main(String[] args) {
        items();
        endsTooEarly();
        blanks();
        words();
        digits();
        hillNumbers();
        stormNumbers();
        wayNumbers();
        alike();
        letterNumbers();
        hoursAndBurns();
        room();
        allOrNothing();
        told();
        asByCalls();
        hoursInTruth();
        burnt();
        elements();
        faultOfTheLatest();
        Edges.end("TextEdgesTest");
    }

    /** Each text stands over a world and has so many ITEMS. */
    private static void stands(String sentence, String world, int items, String... texts) {
        for (String text : texts) {
            Edges.edge(16, sentence, world, "tell \"" + text + "\" = " + items, "fault() = NONE", "status(16) = 0");
        }
    }

    /** Each text is followed by the place of its FAULT. */
    private static void faults(String sentence, String world, Object... textsAndPlaces) {
        for (int i = 0; i < textsAndPlaces.length; i += 2) {
            String text = (String) textsAndPlaces[i];
            Edges.edge(17, sentence, world, "tell \"" + text + "\" fault " + textsAndPlaces[i + 1]);
        }
    }

    private static String repeat(String text, int times) {
        StringBuilder all = new StringBuilder();
        for (int i = 0; i < times; i++) {
            all.append(text);
        }
        return all.toString();
    }

    private static void items() {
        stands("ITEM", SOME, 1, "hill 0 0", "storm 1 1 1 0 1", "letter 1 0 1 1", "hour 1", "burn 0");
        stands("then any number of times ; and ITEM", SOME, 2, "hour 1;hour 1", "hill 0 0;hill 0 0", "burn 0;hour 1");
        stands("then any number of times ; and ITEM: as many as a ROW holds", SOME, 23, repeat("hour 1;", 22) + "hour 1");
        faults("no ITEM at all", SOME, "", 0, ";", 0, " ", 0, ";hour 1", 0);
        faults("; without an ITEM behind it", SOME, "hour 1;", 7, "hour 1;;", 7, "hour 1;;hour 1", 7, "hour 1; ", 7,
            "hour 1;hour 1;", 14);
        faults("ITEMS without a ;", SOME, "hour 1hour 1", 6, "hour 1 hour 1", 6, "hour 1,hour 1", 6, "hour 1:hour 1", 6,
            "hour 1h", 6, "hour 1hou", 6, "hill 0 0hil", 8, "hour 1s", 6);
        String many = repeat("hour 1;", 22);
        faults("the FAULT at the end of as many elements as may be", SOME, many + "hour 0", 159, many + "hour ;", 159,
            many + "hour1 ", 158, repeat("hour 1;", 21) + "hour 0001;hou", 160, repeat("hour 1;", 21) + "hour 001;hill", 160);
    }

    private static void endsTooEarly() {
        // of each word the longest text whose beginnings may all go on
        String[] whole = {"hill 6 9", "letter 9999 0 1 99", "hour 99", "burn 0", "storm 9 99 9 0 1"};
        String[] stand = {"hill 6 9", "letter 9999 0 1 9", "hour 9", "burn 0", "storm 9 99 9 0 1"};
        for (int i = 0; i < whole.length; i++) {
            for (int n = 0; n < stand[i].length(); n++) {
                faults("the number of elements, if it ends too early", SOME, whole[i].substring(0, n), n);
            }
            stands("it ends where it may", SOME, 1, stand[i], whole[i]);
        }
        faults("the number of elements, if a WAY ends too early", SOME, "storm 9 99 9 0 1 ", 17, "storm 9 99 9 0 1 2 ", 19);
    }

    private static void blanks() {
        faults("one blank between words and NUMBERS: not two", SOME, "hill  0 0", 5, "hill 0  0", 7, "storm  1 1 1 0 1", 6,
            "storm 1 1 1 0  1", 14, "letter 1 0 1  1", 13, "hour  1", 5, "burn  0", 5);
        faults("one blank between words and NUMBERS: not none", SOME, "hill0 0", 4, "hour1", 4, "burn0", 4, "letter1 0 1 1", 6,
            "storm1 1 1 0 1", 5);
        faults("a blank, no other sign", SOME, "hill\t0 0", 4, "hill 0\t0", 6, "hill!0 0", 4, "hour_1", 4, "burn-0", 4);
        faults("no blank ahead of an ITEM or behind it", SOME, " hour 1", 0, "hour 1 ", 6, "hour 1 ;hour 1", 6,
            "hour 1; hour 1", 7, "hill 0 0 ", 8, "letter 1 0 1 1 ", 14, "burn 0 ", 6);
        faults("a blank behind a WAY asks for a HILL", SOME, "storm 1 1 1 0 1 ;hour 1", 16, "storm 1 1 1 0 1 x", 16);
        faults("no blank behind the sixth HILL of a WAY", SOME, "storm 1 1 1 0 1 0 1 0 1 ", 23, "storm 1 1 1 0 1 0 1 0 1 2", 23);
    }

    private static void words() {
        faults("the first element that is not as the word is", SOME, "x", 0, "Hill 0 0", 0, "hxll", 1, "hil", 3, "hixl", 2,
            "hilx", 3, "hillx", 4, "hills", 4, "sxorm", 1, "stxrm", 2, "stoxm", 3, "storx", 4, "stormx", 5, "lxtter", 1,
            "lettxr", 4, "lettex", 5, "letterx", 6, "hoxr", 2, "houx", 3, "hourx", 4, "hors", 2, "bxrn", 1, "buxn", 2,
            "burx", 3, "burnx", 4, "0", 0, "hi ll", 2);
        faults("the same behind a ;", SOME, "hour 1;x", 7, "hour 1;hox", 9, "hour 1;hillx", 11, "hour 1;h", 8);
    }

    private static void digits() {
        stands("NUMBERS (1 to 4 digits)", SOME, 1, "hill 0 0", "hill 00 00", "hill 000 000", "hill 0000 0000", "hour 0099",
            "burn 0000", "letter 0000 0000 0001 0099", "letter 9999 00 01 01", "storm 0001 0001 0001 0000 0001");
        stands("numbers of a text may begin with 0", SOME, 1, "hill 06 09", "hour 01", "burn 00", "letter 0009 02 001 09",
            "storm 09 099 09 00 01 02");
        faults("not 5 digits: the fifth", SOME, "hill 00000 0", 9, "hill 0 00000", 11, "hour 00011", 9, "burn 00000", 9,
            "letter 00001 0 1 1", 11, "letter 10000 0 1 1", 11, "letter 99999 0 1 1", 11, "storm 1 1 1 0 00010", 18);
        faults("not 0 digits", SOME, "hill ", 5, "hill x 0", 5, "hill 0 x", 7, "hour ;", 5, "hour x", 5, "burn x", 5,
            "letter 1 0 1 x", 13, "storm 1 1 1 0 x", 14);
        faults("digits are 0 to 9", SOME, "hill / 0", 5, "hill : 0", 5, "hill 0/ 0", 6, "hill 0: 0", 6, "hour /", 5, "hour :", 5,
            "hill -1 0", 5, "hill +1 0", 5, "hill 0 -1", 7);
        faults("a NUMBER of four digits that may not be, whatever the fifth", SOME, "hill 12345 0", 5, "hour 12345", 5,
            "hour 00001", 5, "storm 1 1 1 0 00001", 14);
    }

    private static void hillNumbers() {
        stands("hill K A: K 0 to 6, A 0 to 9", SOME, 1, "hill 0 0", "hill 6 9");
        faults("hill K A: the first digit of a K that may not be", SOME, "hill 7 0", 5, "hill 9999 0", 5, "hill 0007 0", 5,
            "hill 10 0", 5, "hill 7", 5, "hill 7x", 5);
        faults("hill K A: the first digit of an A that may not be", SOME, "hill 0 10", 7, "hill 6 9999", 7, "hill 000 0010", 9,
            "hill 0 10;hour 1", 7, "hill 0 10x", 7);
    }

    private static void stormNumbers() {
        stands("storm P F R: P 1 to 9, F 1 to 99, R 1 to 9", SOME, 1, "storm 1 1 1 0 1", "storm 9 99 9 0 1");
        faults("storm P F R: P", SOME, "storm 0 1 1 0 1", 6, "storm 10 1 1 0 1", 6, "storm 0000 1 1 0 1", 6, "storm 9999", 6);
        faults("storm P F R: F", SOME, "storm 1 0 1 0 1", 8, "storm 1 100 1 0 1", 8, "storm 1 9999", 8, "storm 0009 0100", 11);
        faults("storm P F R: R", SOME, "storm 1 1 0 0 1", 10, "storm 1 1 10 0 1", 10, "storm 1 99 9999", 11);
    }

    private static void wayNumbers() {
        stands("2 to 6 times a blank and a HILL", SOME, 1, "storm 1 1 1 0 1", "storm 1 1 1 0 1 2", "storm 1 1 1 0 1 2 1",
            "storm 1 1 1 0 1 2 0 1", "storm 1 1 1 0 1 2 0 1 2");
        faults("not once", SOME, "storm 1 1 1 0", 13, "storm 1 1 1 0;", 13, "storm 1 1 1 0;hour 1", 13);
        faults("not never", SOME, "storm 1 1 1", 11, "storm 1 1 1;", 11, "storm 1 1 1;hour 1", 11);
        faults("not 7 times", SOME, "storm 1 1 1 0 1 2 0 1 2 1", 23);
        faults("a HILL that isn't there", SOME, "storm 1 1 1 3 1", 12, "storm 1 1 1 0 3", 14, "storm 1 1 1 0 1 3", 16,
            "storm 1 1 1 0 1 2 0 1 3", 22, "storm 1 1 1 0 9999", 14);
        faults("of no HILLS none is there", "", "storm 1 1 1 0 1", 12, "letter 1 0 1 1", 9);
        stands("the eighth HILL", FULL_OF_HILLS, 1, "storm 1 1 1 7 0");
        faults("not a ninth", FULL_OF_HILLS, "storm 1 1 1 8 0", 12);
    }

    private static void alike() {
        faults("the same HILL: that", SOME, "letter 1 0 0 1", 11, "letter 1 2 2 1", 11, "letter 1 01 001 1", 12, "letter 1 0 0", 11);
        faults("as the one ahead: that", SOME, "storm 1 1 1 0 0", 14, "storm 1 1 1 0 0 1", 14, "storm 1 1 1 0 1 1", 16,
            "storm 1 1 1 0 1 1 2", 16, "storm 1 1 1 0 1 01 2", 16, "storm 1 1 1 0 1 2 0 1 1", 22);
        faults("a last one as the first: it", SOME, "storm 1 1 1 0 1 0", 16, "storm 1 1 1 0 1 0;hour 1", 16,
            "storm 1 1 1 0 1 2 0", 18, "storm 1 1 1 0 1 2 1 0", 20, "storm 1 1 1 0 1 2 1 2 0", 22, "storm 1 1 1 0 1 00", 16);
        stands("the first once more, but not as the last", SOME, 1, "storm 1 1 1 0 1 0 1", "storm 1 1 1 0 1 0 2 0 1");
        faults("the first once more, and not as the last: what is behind it", SOME, "storm 1 1 1 0 1 0 ", 18,
            "storm 1 1 1 0 1 0 0", 18, "storm 1 1 1 0 1 0 3", 18, "storm 1 1 1 0 1 0 x", 18);
    }

    private static void letterNumbers() {
        stands("letter W P Q G: W 0 to 9999, P and Q HILLS, G 1 to 99", SOME, 1, "letter 0 0 2 1", "letter 9999 2 0 99");
        faults("letter W P Q G: P", SOME, "letter 1 3 1 1", 9, "letter 1 9999 1 1", 9, "letter 1 3", 9);
        faults("letter W P Q G: Q", SOME, "letter 1 0 3 1", 11, "letter 1 0 9999 1", 11, "letter 1 0 3", 11);
        faults("letter W P Q G: G", SOME, "letter 1 0 1 0", 13, "letter 1 0 1 100", 13, "letter 1 0 1 9999", 13,
            "letter 1 0 1 0;hour 1", 13);
        faults("letter W P Q G: no more", SOME, "letter 1 0 1 1 1", 14);
    }

    private static void hoursAndBurns() {
        stands("hour N (1 to 99)", SOME, 1, "hour 1", "hour 99");
        faults("hour N (1 to 99)", SOME, "hour 0", 5, "hour 100", 5, "hour 0000", 5, "hour 9999", 5, "hour 1 1", 6);
        stands("burn L (a LETTER)", SOME, 1, "burn 0");
        faults("burn L: no such LETTER", SOME, "burn 1", 5, "burn 0001", 5, "burn 9999", 5, "burn 0 0", 6);
        faults("burn L: no LETTERS at all", "", "burn 0", 5);
        stands("burn L: the twelfth", FULL_OF_LETTERS, 1, "burn 11");
        faults("burn L: not a thirteenth", FULL_OF_LETTERS, "burn 12", 5);
    }

    private static void room() {
        stands("room for the eighth HILL", "7 x hill(0, 0)", 1, "hill 0 0");
        faults("no room for a ninth HILL: its word", FULL_OF_HILLS, "hill 0 0", 0, "hour 1;hill 0 0", 7);
        faults("no room for the second: its word", "7 x hill(0, 0)", "hill 0 0;hill 0 0", 9);
        stands("room for the fourth STORM", "2 x hill(0, 0)\nput(0, 0: 0 1)\n3 x storm(0, 2, 1, 1, 1)", 1, "storm 1 1 1 0 1");
        faults("no room for a fifth STORM: its word", FULL_OF_STORMS, "storm 1 1 1 0 1", 0, "hour 1;storm 1 1 1 0 1", 7);
        stands("room for the twelfth LETTER", "2 x hill(0, 0)\n11 x letter(1, 0, 1, 1)", 1, "letter 1 0 1 1");
        faults("no room for a thirteenth LETTER: its word", FULL_OF_LETTERS, "letter 1 0 1 1", 0, "hour 1;letter 1 0 1 1", 7,
            "burn 0;letter 1 0 1 1", 7);
        faults("once that is whole, and whatever stands behind it", FULL_OF_HILLS, "hill", 0, "hillx", 0, "hill ", 0, "hill;", 0,
            "hill 7 0", 0);
        faults("once that is whole, and whatever stands behind it", FULL_OF_STORMS, "storm", 0, "stormx", 0, "hour 1;storm", 7);
        faults("once that is whole, and whatever stands behind it", FULL_OF_LETTERS, "letter", 0, "letterx", 0,
            "hour 1;letter", 7);
        faults("until then the number of elements", FULL_OF_HILLS, "h", 1, "hi", 2, "hil", 3, "hour 1;hil", 10);
        faults("until then the number of elements", FULL_OF_STORMS, "s", 1, "stor", 4);
        faults("until then the number of elements", FULL_OF_LETTERS, "l", 1, "lette", 5);
        faults("until then the first element that is not as it is", FULL_OF_HILLS, "hix", 2, "hilx", 3, "hil ", 3, "hour 1;hilx", 10);
        faults("until then the first element that is not as it is", FULL_OF_STORMS, "sx", 1, "storx", 4);
        faults("until then the first element that is not as it is", FULL_OF_LETTERS, "lx", 1, "lettex", 5);
        stands("full of one there is room for the others", FULL_OF_HILLS, 4, "storm 1 1 1 0 1;letter 1 0 1 1;hour 1;burn 0");
        stands("full of one there is room for the others", FULL_OF_STORMS, 4, "hill 0 0;letter 1 0 1 1;hour 1;burn 0");
        stands("full of one there is room for the others", FULL_OF_LETTERS, 4, "hill 0 0;storm 1 1 1 0 1;hour 1;burn 0");
    }

    /** That nothing else has changed is looked after by the second object of each run. */
    private static void allOrNothing() {
        faults("all is told over what there is, or nothing", SOME,
            "hill 1 1;storm 1 9 9 1 0;letter 1 0 3 1;hour 9;burn 0;hill 9 9", 59,
            "hour 99;hour 99;burn 0;burn 1", 28, "burn 0;", 7, "hill 3 3;", 9, "letter 1 0 1 1;x", 15,
            "storm 1 99 9 1 0;hour 2;hour 2;hour 2 ", 37);
        Edges.edge(16, "nothing is told: the same LETTER may be told later", SOME, "tell \"letter 7 0 1 1;\" fault 15",
            "tell \"letter 8 0 1 1\" = 1", "letterOf(1, 0) = 8", "status(2) = 2");
        Edges.edge(16, "nothing is told: an IMAGE stays, too", SOME, "image()", "tell \"hour 9;x\" fault 7", "hours(2)", "restore() = 3",
            "status(5) = 0");
    }

    private static void told() {
        Edges.edge(16, "all is told over what there is", SOME, "tell \"hill 3 7;letter 9 3 0 99;storm 9 99 9 3 2 1 0 1 2\" = 3",
            "status(0) = 4", "hillOf(3, 0) = 3", "hillOf(3, 1) = 7", "letterOf(1, 0) = 9", "letterOf(1, 1) = 3",
            "letterOf(1, 2) = 0", "letterOf(1, 3) = 99", "letterOf(1, 4) = 3", "letterOf(1, 5) = NONE", "stormOf(0, 0) = 3",
            "stormOf(0, 1) = 9", "stormOf(0, 2) = 99", "stormOf(0, 3) = 9", "stormOf(0, 5) = 6", "stormOf(0, 15) = 2");
        Edges.edge(16, "what is told ahead is there behind it", "tell \"hill 0 0;hill 0 0;storm 1 9 9 1 0;letter 5 0 1 9;hour 1;burn 0\" = 6",
            "letterOf(0, 4) = 300", "stormOf(0, 4) = 0", "hillOf(0, 2) = 0");
        faults("what is told behind isn't there yet", SOME, "storm 1 1 1 0 3;hill 0 0", 14, "burn 1;letter 1 0 1 1", 5,
            "letter 1 0 3 1;hill 0 0", 11);
        Edges.edge(16, "how many ITEMS", SOME, "tell \"hour 1\" = 1", "tell \"hour 1;hour 1\" = 2", "tell \"hour 1;hour 1;hour 1\" = 3",
            "status(5) = 6");
    }

    /** A text tells just what the calls would. */
    private static void asByCalls() {
        String text = "hill 0 1;hill 2 0;hill 5 9;storm 1 60 2 0 1 2;letter 9999 0 2 60;letter 12 1 0 61;hour 7;letter 5 2 1 9;burn 1;hour 2";
        Edges.alike(16, "a text tells what the calls would", "tell \"" + text + "\" = 10\n", """
            hill(0, 1)
            hill(2, 0)
            hill(5, 9)
            put(0, 0: 0 1 2)
            storm(0, 3, 1, 60, 2)
            letter(9999, 0, 2, 60)
            letter(12, 1, 0, 61)
            hours(7)
            letter(5, 2, 1, 9)
            burn(1)
            hours(2)
            """);
        Edges.alike(16, "a text tells the twelfth LETTER, the fourth STORM, the eighth HILL", "7 x hill(0, 0)\nput(0, 0: 0 1)\n"
            + "3 x storm(0, 2, 1, 1, 1)\n11 x letter(5, 0, 1, 50)\n"
            + "tell \"hill 2 9;storm 2 40 1 2 3 4 5 6 7;letter 9876 5 2 40;hour 7\" = 4\n", "7 x hill(0, 0)\nput(0, 0: 0 1)\n"
            + "3 x storm(0, 2, 1, 1, 1)\n11 x letter(5, 0, 1, 50)\n"
            + "hill(2, 9)\nput(1, 0: 2 3 4 5 6 7)\nstorm(1, 6, 2, 40, 1)\nletter(9876, 5, 2, 40)\nhours(7)\n");
        Edges.alike(16, "numbers of a text may begin with 0: they are the same", SOME + "tell \"hill 0003 0009;letter 0012 0003 0001 0007;"
            + "storm 01 009 0008 0003 02\" = 3\n", SOME + "tell \"hill 3 9;letter 12 3 1 7;storm 1 9 8 3 2\" = 3\n");
    }

    private static void hoursInTruth() {
        Edges.edge(16, "hour N: so many go by in truth", SOME, "put(0, 0: 1 0)", "storm(0, 2, 1, 9, 9)", "tell \"hour 1\" = 1",
            "letterOf(0, 4) = 100", "status(5) = 1", "tell \"hour 1\" = 1", "letterOf(0, 5) = 2", "status(3) = 1", "heard(1, 0) = 5");
        Edges.edge(16, "hour 99", SOME, "tell \"hour 99\" = 1", "status(5) = 99");
        Edges.edge(16, "hours of a text draw nothing", SOME, "put(0, 0: 1 0)", "storm(0, 2, 1, 9, 9)", "dry(100)", "tell \"hour 1\" = 1",
            "stormOf(0, 0) = 0", "status(7) = 1");
    }

    private static void burnt() {
        Edges.edge(16, "burn L: it lies nowhere, never arrives", SOME, "put(0, 0: 1 0)", "storm(0, 2, 1, 9, 9)", "tell \"burn 0\" = 1",
            "letterOf(0, 4) = 300", "hillOf(0, 2) = 0", "arrives(0) = NONE", "status(4) = 1");
        Edges.edge(16, "burn of one that ARRIVED may stand in a text and changes nothing", SOME, "put(0, 0: 1 0)",
            "storm(0, 2, 1, 9, 9)", "hours(2)", "tell \"burn 0\" = 1", "letterOf(0, 4) = 200", "letterOf(0, 5) = 2", "status(4) = 0",
            "status(3) = 1", "arrives(0) = 2");
        Edges.edge(16, "burn of one that is burnt may stand in a text, too", SOME, "burn(0)", "tell \"burn 0;burn 0\" = 2",
            "letterOf(0, 4) = 300", "status(4) = 1");
    }

    private static void elements() {
        // 'h' 'o' 'u' 'r' ' ' '1' are 104 111 117 114 32 49
        Edges.edge(16, "a ROW of letters: bytes", "put(0, 0: 104 111 117 114 32 49)", "sky(0) = 1");
        Edges.edge(16, "a ROW of letters: shorts, ints and longs", "put(0, 1: 104 111 117 114 32 49)", "sky(0) = 1",
            "put(0, 2: 104 111 117 114 32 49)", "sky(0) = 1", "put(0, 3: 104 111 117 114 32 49)", "sky(0) = 1", "status(5) = 3");
        Edges.edge(16, "elements of longs count by their lowest 32 bits",
            "put(0, 3: 4294967400 -4294967185 117 9223372032559808626 32 4294967345)", "sky(0) = 1", "status(5) = 1");
        Edges.edge(17, "all 32 of them: 104 and 65536 is no h", "put(0, 2: 65640 111 117 114 32 49)", "sky(0) = -6", "fault() = 0",
            "put(0, 3: 104 111 117 114 32 2147483697)", "sky(0) = -6", "fault() = 5");
        Edges.edge(17, "shorts count by all of their bits", "put(0, 1: 104 367 117 114 32 49)", "sky(0) = -6", "fault() = 1");
        Edges.edge(17, "bytes keep their lowest 8 bits", "put(0, 0: 104 367 117 114 32 49)", "sky(0) = 1", "fault() = NONE");
        Edges.edge(17, "elements below 0", "put(0, 0: -104 111)", "sky(0) = -6", "fault() = 0",
            "put(0, 0: 104 111 117 114 32 49 -1)", "sky(0) = -6", "fault() = 6");
    }

    private static void faultOfTheLatest() {
        Edges.edge(17, "none yet", "fault() = NONE");
        Edges.edge(17, "that came to a ROW: no SHELF, a HILL, NOTHING don't", "hill(0, 0)", "show(0, 0)", "tell \"hour 1\" = 1",
            "sky(0) refused -2", "sky(1) refused -3", "sky(8) refused -1", "sky(-1) refused -1", "fault() = NONE");
        Edges.edge(17, "that came to a ROW: the FAULT stays", "hill(0, 0)", "show(0, 0)", "tell \"hour x\" = -6", "fault() = 5",
            "sky(0) refused -2", "sky(1) refused -3", "sky(8) refused -1", "sky(-1) refused -1", "fault() = 5");
        Edges.edge(17, "of the latest: another, and then none", "tell \"hour x\" fault 5", "tell \"hox\" fault 2", "tell \"hour 1\" = 1",
            "fault() = NONE");
        Edges.edge(17, "NONE: there was none", "tell \"hour 1\" = 1", "fault() = NONE");
        Edges.edge(17, "a FAULT at the first element is 0", "row(0, 0, 0)", "sky(0) = -6", "fault() = 0");
        Edges.edge(17, "restore changes no FAULT", "image()", "tell \"hox\" fault 2", "restore() = 0", "fault() = 2");
        Edges.edge(16, "-6 a FAULT", "row(0, 0, 0)", "sky(0) = -6", "status(16) = 1");
    }
}
