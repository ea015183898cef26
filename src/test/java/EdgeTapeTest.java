/** Promises 1 to 3, 5 and 6, and the RECIPE's text: a test for each sentence that names a boundary case. */
final class EdgeTapeTest {
    private static final int BLANKS = 0x20202020;

    public static void main(String[] args) {
        Edge.of("public static final int NONE = -1;", EdgeTapeTest::none);
        Edge.of("No CLOTHS, no RECIPE (no BATH), no BATCHES, TANKS, GARMENTS.", EdgeTapeTest::newObject);
        Edge.of("Twenty bytes come behind the TAPE, of each number the highest first: how many it has",
                EdgeTapeTest::twentyBytes);
        Edge.of("NONE, and none come, if it would have more than 400.", EdgeTapeTest::fullTape);
        Edge.of("The TAPE has its first n bytes alone: true", EdgeTapeTest::cutTape);
        Edge.of("false, and nothing happens, if it has fewer, or n is below 0.", EdgeTapeTest::notCut);
        Edge.of("A RECIPE: a text: BATH { ; BATH }, at most 20.", EdgeTapeTest::mostBaths);
        Edge.of("BATH: wash NUMBER | stone NUMBER | bleach NUMBER | rinse.", EdgeTapeTest::eachBath);
        Edge.of("NUMBER: 1 or 2 digits, 1 to 20.", EdgeTapeTest::numbers);
        Edge.of("Words are as long as a to z go on", EdgeTapeTest::words);
        Edge.of("between all there may be blanks (32), also ahead and behind.", EdgeTapeTest::blanks);
        Edge.of("A text that is empty, or blanks alone, has none.", EdgeTapeTest::emptyText);
        Edge.of("the begin of the first thing that cannot stand there", EdgeTapeTest::firstThing);
        Edge.of("(a NUMBER of more digits, or out of its bounds; a word that is none; of a 21st BATH its word)",
                EdgeTapeTest::thingsThatCannotStand);
        Edge.of("or the text's length, if more must come.", EdgeTapeTest::moreMustCome);
        Edge.of("Uses the TAPE up: the RECIPE: how many BATHS.", EdgeTapeTest::usesUp);
        Edge.of("IllegalArgumentException: the text is wrong: all stays.", EdgeTapeTest::allStays);
        Edge.of("The first wrong byte of the latest recipe() or house()", EdgeTapeTest::latest);
        Edge.of("NONE without one, and ahead of any.", EdgeTapeTest::noFault);
        Check.done("EdgeTapeTest");
    }

    private static int feed(TrouserWash x, int four) {
        return x.feed(four, four, four, four, four);
    }

    private static void right(String text, int baths, int cost) {
        TrouserWash x = new TrouserWash();
        Check.is("recipe '" + text + "'", Check.recipe(x, text), baths);
        Check.is("fault of '" + text + "'", x.fault(), -1);
        Check.is("cost of '" + text + "'", x.cost(), cost);
    }

    private static void wrong(String text, int place) {
        TrouserWash x = new TrouserWash();
        Check.argument("recipe '" + text + "'", () -> Check.recipe(x, text));
        Check.is("fault of '" + text + "'", x.fault(), place);
    }

    private static void none() {
        Check.is("NONE", TrouserWash.NONE, -1);
        Check.is("an answer that is none", new TrouserWash().fault(), TrouserWash.NONE);
    }

    private static void newObject() {
        TrouserWash x = new TrouserWash();
        for (int what : new int[] {0, 1, 2, 3, 9}) {
            Check.is("count(" + what + ")", x.count(what), 0);
        }
        Check.index("cloth 0", () -> x.look(0, 0, 0));
        Check.index("tank 0", () -> x.has(0, 0));
        Check.is("cost", x.cost(), 0);
        Check.is("order", x.order(), 0);
        Check.is("clear", x.clear(), 0);
        Check.is("spread", x.spread(1), 0);
        Check.is("packs", x.packs(1, 255, false), 0);
        x.cloth(1, 1, 1);
        Check.recipe(x, "rinse");
        x.batch(0);
        x.tank(1);
        x.garment(0);
        for (int what : new int[] {0, 1, 2, 3, 9}) {
            Check.is("count(" + what + ") with one", x.count(what), 1);
        }
        Check.is("another object has none of it", new TrouserWash().count(0), 0);
    }

    /** "rinse;stone 2;wash 9", each byte at its place. */
    private static void twentyBytes() {
        TrouserWash x = new TrouserWash();
        Check.is("the first twenty", x.feed(0x72696e73, 0x653b7374, 0x6f6e6520, 0x323b7761, 0x73682039), 20);
        Check.is("they are the text", x.recipe(), 3);
        Check.is("its cost", x.cost(), 1 + 6 + 9);
        Check.is("the first ones again", feed(x, BLANKS), 20);
        Check.is("behind them", x.feed(0x77617368, 0x20313920, 0x3b72696e, 0x73652020, BLANKS), 40);
        Check.is("both are the text", x.recipe(), 2);
        Check.is("its cost", x.cost(), 20);
        Check.is("a number below 0", x.feed(0x20202020, 0x202020FF, BLANKS, BLANKS, 0x80000000), 20);
        Check.argument("its lowest byte is none", x::recipe);
        Check.is("and stands there", x.fault(), 7);
        x.feed(BLANKS, BLANKS, BLANKS, BLANKS, 0x80202020);
        Check.argument("its highest byte is none", x::recipe);
        Check.is("and stands there", x.fault(), 16);
    }

    private static void fullTape() {
        TrouserWash x = new TrouserWash();
        for (int i = 1; i <= 20; i++) {
            Check.is("feed", feed(x, BLANKS), 20 * i);
        }
        Check.is("400 and 20 more", feed(x, 0x61616161), -1);
        Check.is("none came", x.end(401), false);
        Check.is("400 are there", x.end(400), true);
        Check.is("cut to 381", x.end(381), true);
        Check.is("381 and 20 more", feed(x, 0x61616161), -1);
        Check.is("none came", x.end(382), false);
        Check.is("what was there stays", x.recipe(), 0);
        for (int i = 1; i <= 19; i++) {
            feed(x, BLANKS);
        }
        Check.is("380 and 20 more", feed(x, 0x61616161), 400);
        Check.argument("they came", x::recipe);
        Check.is("behind the 380", x.fault(), 380);
    }

    private static void cutTape() {
        TrouserWash x = new TrouserWash();
        Check.is("end(0) of an empty one", x.end(0), true);
        Check.put(x, "wash 19;rinse");
        Check.is("end(13) of 13", x.end(13), true);
        Check.is("end(7)", x.end(7), true);
        Check.is("the bytes behind are gone", x.end(8), false);
        Check.is("more come behind the 7", x.feed(0x3b72696e, 0x73652020, BLANKS, BLANKS, BLANKS), 27);
        Check.is("end(28) of 27", x.end(28), false);
        Check.is("end(13)", x.end(13), true);
        Check.is("both are one text", x.recipe(), 2);
        Check.is("its cost", x.cost(), 20);
        Check.put(x, "wash 19");
        Check.is("end(6)", x.end(6), true);
        Check.is("a NUMBER cut", x.recipe(), 1);
        Check.is("its cost", x.cost(), 1);
        Check.put(x, "x");
        Check.is("end(0)", x.end(0), true);
        Check.is("nothing is left", x.recipe(), 0);
    }

    private static void notCut() {
        TrouserWash x = new TrouserWash();
        Check.is("end(1) of an empty one", x.end(1), false);
        Check.is("end(-1) of an empty one", x.end(-1), false);
        Check.put(x, "wash 19");
        Check.is("end(8) of 7", x.end(8), false);
        Check.is("end(-1)", x.end(-1), false);
        Check.is("end of the least number", x.end(Integer.MIN_VALUE), false);
        Check.is("end of the greatest number", x.end(Integer.MAX_VALUE), false);
        Check.is("nothing happened", x.recipe(), 1);
        Check.is("its cost", x.cost(), 19);
    }

    private static void mostBaths() {
        right("rinse", 1, 1);
        right("rinse;rinse", 2, 2);
        String nineteen = "wash 1" + ";wash 1".repeat(18);
        right(nineteen, 19, 19);
        right(nineteen + ";wash 1", 20, 20);
        wrong(nineteen + ";wash 1;wash 1", 140);
        wrong("rinse rinse", 6);
        wrong("rinse;;rinse", 6);
        wrong("rinse,rinse", 5);
        wrong("rinse:rinse", 5);
        wrong("rinse<rinse", 5);
    }

    private static void eachBath() {
        right("wash 2", 1, 2);
        right("stone 2", 1, 6);
        right("bleach 2", 1, 5);
        right("rinse", 1, 1);
        wrong("wash", 4);
        wrong("stone", 5);
        wrong("bleach", 6);
        wrong("rinse 2", 6);
        wrong("wash;rinse", 4);
        wrong("wash rinse", 5);
        wrong("2 wash", 0);
    }

    private static void numbers() {
        int[] times = {1, 3, 2};
        int[] besides = {0, 0, 1};
        String[] words = {"wash", "stone", "bleach"};
        for (int i = 0; i < 3; i++) {
            for (int n : new int[] {1, 9, 10, 20}) {
                right(words[i] + " " + n, 1, times[i] * n + besides[i]);
            }
            right(words[i] + " 01", 1, times[i] + besides[i]);
            right(words[i] + " 09", 1, times[i] * 9 + besides[i]);
            for (String none : new String[] {"0", "00", "21", "30", "99", "001", "020", "100", "12345678901", "-1", "+1"}) {
                wrong(words[i] + " " + none, words[i].length() + 1);
            }
            wrong(words[i] + " /", words[i].length() + 1);
            wrong(words[i] + " :", words[i].length() + 1);
            wrong(words[i] + " 1/", words[i].length() + 2);
            wrong(words[i] + " 1:", words[i].length() + 2);
        }
    }

    /** 96 and 123 are the bytes beside a and z, 64 and 91 those beside A and Z. */
    private static void words() {
        right("wash1;stone1;bleach1;rinse", 4, 1 + 3 + 3 + 1);
        wrong("washa1", 0);
        wrong("washz1", 0);
        wrong("was 1", 0);
        wrong("washrinse", 0);
        wrong("awash 1", 0);
        wrong("wash`1", 4);
        wrong("wash{1", 4);
        wrong("rinse`", 5);
        wrong("rinse{", 5);
        wrong("washA1", 4);
        wrong("washZ1", 4);
        wrong("Wash 1", 0);
        wrong("wash 1a", 6);
        wrong("rinse;wash" + (char) 225 + "1", 10);
        right(" ".repeat(395) + "rinse", 1, 1);
        wrong(" ".repeat(396) + "rins", 396);
        wrong(" ".repeat(396) + "wash", 400);
        wrong(" ".repeat(397) + "was", 397);
    }

    private static void blanks() {
        right("wash20;rinse", 2, 21);
        right(" wash20;rinse", 2, 21);
        right("wash 20;rinse", 2, 21);
        right("wash20 ;rinse", 2, 21);
        right("wash20; rinse", 2, 21);
        right("wash20;rinse ", 2, 21);
        right("   wash   20   ;   rinse   ", 2, 21);
        right(" ".repeat(395) + "rinse", 1, 1);
        right("rinse" + " ".repeat(395), 1, 1);
        for (char beside : new char[] {0, 9, 10, 13, 31, 33, 160}) {
            wrong(beside + "rinse", 0);
            wrong("wash" + beside + "1", 4);
            wrong("rinse" + beside, 5);
        }
        wrong("wa sh 1", 0);
        wrong("wash 1 0", 7);
    }

    private static void emptyText() {
        for (int length : new int[] {0, 1, 20, 400}) {
            TrouserWash x = new TrouserWash();
            Check.recipe(x, "wash 5");
            Check.is(length + " blanks", Check.recipe(x, " ".repeat(length)), 0);
            Check.is("its BATHS", x.count(1), 0);
            Check.is("its cost", x.cost(), 0);
            Check.is("its fault", x.fault(), -1);
        }
        wrong(" ;", 1);
        wrong(";", 0);
        wrong("\0", 0);
    }

    private static void firstThing() {
        wrong("x", 0);
        wrong("rinse;x", 6);
        wrong("rinse; x; wash 99; 5", 7);
        wrong("wash 99;x", 5);
        wrong("wash 20;wash 21", 13);
        wrong("wash 20 20", 8);
        wrong(" ".repeat(399) + "x", 399);
        right("wash 20", 1, 20);
    }

    private static void thingsThatCannotStand() {
        wrong("stone 020", 6);
        wrong("stone   0", 8);
        wrong("stone   21;rinse", 8);
        right("stone   20;rinse", 2, 61);
        wrong("rinse;   rins", 9);
        wrong("rinse;   rinsee", 9);
        String twenty = "rinse" + ";rinse".repeat(19);
        right(twenty, 20, 20);
        wrong(twenty + ";rinse", 120);
        wrong(twenty + ";  wash 99", 122);
        wrong(twenty + ";  wash", 122);
        wrong(twenty + ";  x", 122);
        wrong(twenty + "x", 114);
        wrong(twenty + " x", 120);
    }

    private static void moreMustCome() {
        wrong("wash", 4);
        wrong("wash ", 5);
        wrong("rinse;", 6);
        wrong("rinse;   ", 9);
        wrong("stone 1;bleach", 14);
        String twenty = "rinse" + ";rinse".repeat(19);
        wrong(twenty + ";", 120);
        wrong(twenty + "; ", 121);
        wrong("rinse;" + " ".repeat(394), 400);
        right("rinse" + " ".repeat(395), 1, 1);
    }

    private static void usesUp() {
        TrouserWash x = new TrouserWash();
        Check.is("two", Check.recipe(x, "rinse;wash 3"), 2);
        Check.is("no byte is left", x.end(1), false);
        Check.is("the next twenty are the first", feed(x, BLANKS), 20);
        Check.is("an empty one", x.recipe(), 0);
        Check.is("is the RECIPE now", x.count(1), 0);
        Check.argument("a wrong one", () -> Check.recipe(x, "wash"));
        Check.is("no byte of it is left", x.end(1), false);
        Check.is("so the next one is empty", x.recipe(), 0);
        Check.is("and right", x.fault(), -1);
    }

    private static void allStays() {
        TrouserWash x = new TrouserWash();
        x.cloth(100, 80, 0);
        Check.recipe(x, "wash 3;stone 2");
        Check.house(x, "pack 7;band 9");
        for (String text : new String[] {"x", "wash 9;", "bleach 20;bleach 20;bleach 21", "rinse;rinse;rinse rinse"}) {
            Check.argument("recipe '" + text + "'", () -> Check.recipe(x, text));
            Check.is("BATHS", x.count(1), 2);
            Check.is("cost", x.cost(), 9);
            Check.is("look", x.look(0, 2, 0), 92);
        }
        for (String text : new String[] {"x", "pack 8;", "band 8;band 51"}) {
            Check.argument("house '" + text + "'", () -> Check.house(x, text));
            Check.is("RULES", x.count(18), 2);
            Check.is("pack", x.tells(16), 7);
            Check.is("band", x.tells(17), 9);
        }
        Check.is("a right one comes", Check.recipe(x, "rinse"), 1);
        Check.is("its cost", x.cost(), 1);
    }

    private static void latest() {
        TrouserWash x = new TrouserWash();
        Check.argument("a wrong recipe", () -> Check.recipe(x, "rinse;x"));
        Check.is("its first wrong byte", x.fault(), 6);
        Check.is("asked again", x.fault(), 6);
        Check.argument("a wrong house", () -> Check.house(x, "band x"));
        Check.is("its first wrong byte", x.fault(), 5);
        Check.is("a right house", Check.house(x, "band 1"), 1);
        Check.is("it has none", x.fault(), -1);
        Check.argument("a house", () -> Check.house(x, "pack 5 x"));
        Check.is("its first wrong byte", x.fault(), 7);
        Check.is("a right recipe", Check.recipe(x, "rinse"), 1);
        Check.is("it has none", x.fault(), -1);
    }

    private static void noFault() {
        TrouserWash x = new TrouserWash();
        Check.is("ahead of any", x.fault(), -1);
        Check.put(x, "x");
        Check.is("ahead of any, with a TAPE", x.fault(), -1);
        Check.argument("a wrong recipe", x::recipe);
        Check.is("with one, at 0", x.fault(), 0);
        Check.is("an empty one", x.recipe(), 0);
        Check.is("without one", x.fault(), -1);
    }
}
