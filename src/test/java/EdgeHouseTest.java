/** Promises 23 and 24, and the house's text in part 5: a test for each sentence that names a boundary case. */
final class EdgeHouseTest {
    private static final String[] BATHS = {"wash", "stone", "bleach", "rinse"};
    private static final int[] AT_FIRST = {0, 0, 0, 0, -1, -1, -1, -1, 5, 3, 4, 5, 4, 0, 0, 1, 5, 4};

    public static void main(String[] args) {
        Edge.of("THE HOUSE: a text: RULE { ; RULE }, at most 24.", EdgeHouseTest::mostRules);
        Edge.of("RULE: bears BATH NUMBER (0 to 100: the DIRT in a hundred litres that such a BATH bears)",
                EdgeHouseTest::bears);
        Edge.of("pours BATH to NUMBER (0 to 4: its water goes to that TANK, if it is there; else it runs off)",
                EdgeHouseTest::poursTo);
        Edge.of("pours BATH away (it runs off)", EdgeHouseTest::poursAway);
        Edge.of("litres NUMBER (1 to 20: of each BATH for each piece)", EdgeHouseTest::litres);
        Edge.of("minutes BATH NUMBER (1 to 60: for each of its n; of a rinse as n were 1)", EdgeHouseTest::minutes);
        Edge.of("again NUMBER times with BATH NUMBER (0 to 5 times; with one of wash, stone, bleach, n 1 to 20)",
                EdgeHouseTest::again);
        Edge.of("pack NUMBER (1 to 20)", EdgeHouseTest::pack);
        Edge.of("band NUMBER (0 to 50).", EdgeHouseTest::band);
        Edge.of("BATH (here): wash, stone, bleach or rinse, the word alone.", EdgeHouseTest::bathAlone);
        Edge.of("A NUMBER: 1 to 3 digits.", EdgeHouseTest::digits);
        Edge.of("Words, blanks, an empty text and the first wrong byte as in the RECIPE (of a 25th RULE its word).",
                EdgeHouseTest::asInTheRecipe);
        Edge.of("What a text does not tell is as at first: bears 0, all away, litres 5, minutes 3, 4, 5, 4, again 0 "
                + "times with wash 1, pack 5, band 4.", EdgeHouseTest::asAtFirst);
        Edge.of("Of several that tell one thing the last counts.", EdgeHouseTest::lastCounts);
        Edge.of("Uses the TAPE up: THE HOUSE: how many RULES. IllegalArgumentException: the text is wrong: all stays.",
                EdgeHouseTest::usesUp);
        Edge.of("what 0 to 3 bears (wash, stone, bleach, rinse), 4 to 7 the TANK (NONE: away), 8 litres, 9 to 12 "
                + "minutes, 13 times, 14 the BATH of again (0 to 2), 15 its n, 16 pack, 17 band.", EdgeHouseTest::whats);
        Edge.of("NoSuchElementException: another what.", EdgeHouseTest::anotherWhat);
        Check.done("EdgeHouseTest");
    }

    /** Pairs of a what and its number; all else must be as at first. */
    private static void told(String text, int rules, int... pairs) {
        TrouserWash x = new TrouserWash();
        Check.is("house '" + text + "'", Check.house(x, text), rules);
        Check.is("RULES of '" + text + "'", x.count(18), rules);
        Check.is("fault of '" + text + "'", x.fault(), -1);
        telling(x, text, pairs);
    }

    private static void telling(TrouserWash x, String text, int... pairs) {
        int[] due = AT_FIRST.clone();
        for (int i = 0; i < pairs.length; i += 2) {
            due[pairs[i]] = pairs[i + 1];
        }
        for (int what = 0; what < due.length; what++) {
            Check.is("tells(" + what + ") of '" + text + "'", x.tells(what), due[what]);
        }
    }

    private static void wrong(String text, int place) {
        TrouserWash x = new TrouserWash();
        Check.argument("house '" + text + "'", () -> Check.house(x, text));
        Check.is("fault of '" + text + "'", x.fault(), place);
        telling(x, text);
        Check.is("RULES after '" + text + "'", x.count(18), 0);
    }

    /** The least and the greatest number behind such words are told, those beside them are wrong. */
    private static void bounds(String words, int least, int most, int what) {
        told(words + " " + least, 1, what, least);
        told(words + " " + most, 1, what, most);
        if (least > 0) {
            wrong(words + " " + (least - 1), words.length() + 1);
        }
        wrong(words + " -1", words.length() + 1);
        wrong(words + " " + (most + 1), words.length() + 1);
        wrong(words + " 999", words.length() + 1);
        wrong(words, words.length());
    }

    /** A LOT of so many pieces is washed on day 1, on a new object with such TANKS. */
    private static TrouserWash washed(String house, String recipe, int pieces, int... tanks) {
        TrouserWash x = new TrouserWash();
        x.cloth(100, 80, 0);
        for (int hold : tanks) {
            x.tank(hold);
        }
        Check.house(x, house);
        Check.recipe(x, recipe);
        x.machine(60);
        x.lot(0, pieces, 0, 0, 255, 0, 400);
        x.load(0, 0);
        x.days(1);
        return x;
    }

    private static void mostRules() {
        told("pack 7", 1, 16, 7);
        told("pack 7;band 7", 2, 16, 7, 17, 7);
        String many = "band 7" + ";band 7".repeat(22);
        told(many, 23, 17, 7);
        told(many + ";pack 9", 24, 17, 7, 16, 9);
        wrong(many + ";pack 9;pack 9", 168);
        wrong("pack 7 band 7", 7);
        wrong("pack 7,band 7", 6);
        wrong("pack 7:band 7", 6);
        wrong("pack 7<band 7", 6);
        wrong("pack 7;;band 7", 7);
    }

    private static void bears() {
        for (int bath = 0; bath < 4; bath++) {
            bounds("bears " + BATHS[bath], 0, 100, bath);
        }
        int[][] due = {{39, 10, 0}, {40, 0, 10}};
        for (int[] d : due) {
            TrouserWash x = new TrouserWash();
            x.cloth(100, 80, 0);
            x.tank(10);
            x.pour(0, 10, 4);
            Check.house(x, "litres 1;bears rinse " + d[0]);
            Check.recipe(x, "rinse");
            x.machine(10);
            x.lot(0, 10, 0, 0, 255, 0, 0);
            x.load(0, 0);
            x.days(1);
            Check.is("40 in a hundred, bears " + d[0] + ": fresh", x.count(4), d[1]);
            Check.is("taken", x.has(0, 1), 10 - d[2]);
        }
    }

    private static void poursTo() {
        for (int bath = 0; bath < 4; bath++) {
            bounds("pours " + BATHS[bath] + " to", 0, 4, 4 + bath);
        }
        TrouserWash first = washed("pours wash to 0", "wash 1", 2, 1000);
        Check.is("TANK 0 of one", first.has(0, 1), 10);
        TrouserWash none = washed("pours wash to 0", "wash 1", 2);
        Check.is("TANK 0 of none", none.count(5), 10);
        TrouserWash last = washed("pours wash to 4", "wash 1", 2, 1, 1, 1, 1, 1000);
        Check.is("TANK 4 of five", last.has(4, 1), 10);
        Check.is("with its DIRT", last.has(4, 2), 2);
        Check.is("nothing ran off", last.count(5), 0);
        TrouserWash four = washed("pours wash to 4", "wash 1", 2, 1, 1, 1, 1);
        Check.is("TANK 4 of four", four.count(5), 10);
        Check.is("its DIRT", four.count(8), 2);
        Check.is("none went to TANK 3", four.has(3, 1), 0);
    }

    private static void poursAway() {
        for (int bath = 0; bath < 4; bath++) {
            told("pours " + BATHS[bath] + " away", 1);
            told("pours " + BATHS[bath] + " to 0;pours " + BATHS[bath] + " away", 2);
        }
        wrong("pours wash away 0", 16);
        wrong("pours wash awa", 11);
        wrong("pours wash awayy", 11);
        wrong("pours wash to away", 14);
        TrouserWash x = washed("pours wash to 0;pours wash away", "wash 1", 2, 1000);
        Check.is("it runs off", x.count(5), 10);
        Check.is("with its DIRT", x.count(8), 2);
        Check.is("not into the TANK", x.has(0, 1), 0);
    }

    /** 60 pieces with 20 litres each are more than a DRAW by hand may be. */
    private static void litres() {
        bounds("litres", 1, 20, 8);
        Check.is("the least", washed("litres 1", "rinse", 1).count(4), 1);
        Check.is("the most", washed("litres 20", "rinse", 60).count(4), 1200);
        Check.is("of two BATHS", washed("litres 20", "rinse;rinse", 60).count(4), 2400);
        TrouserWash x = washed("litres 20;pours rinse to 0", "rinse", 60, 1000);
        Check.is("poured", x.has(0, 1), 1000);
        Check.is("what was above", x.count(5), 200);
        Check.is("with its part of the DIRT", x.count(8), 10);
    }

    private static void minutes() {
        for (int bath = 0; bath < 4; bath++) {
            bounds("minutes " + BATHS[bath], 1, 60, 9 + bath);
        }
        Check.is("wash 20 of 1", washed("minutes wash 1", "wash 20", 1).works(0, 4), 20);
        Check.is("wash 8 of 60", washed("minutes wash 60", "wash 8", 1).works(0, 4), 480);
        Check.is("wash 9 of 60", washed("minutes wash 60", "wash 9", 1).works(0, 4), 0);
        Check.is("wash 1 of 60", washed("minutes wash 60", "wash 1", 1).works(0, 4), 60);
        Check.is("stone 8 of 60", washed("minutes stone 60", "stone 8", 1).works(0, 4), 480);
        Check.is("bleach 8 of 60", washed("minutes bleach 60", "bleach 8", 1).works(0, 4), 480);
        Check.is("rinse of 60", washed("minutes rinse 60", "rinse", 60).works(0, 4), 60);
        Check.is("rinse of 1", washed("minutes rinse 1", "rinse", 60).works(0, 4), 1);
        Check.is("at first", washed("", "wash 1;stone 1;bleach 1;rinse", 1).works(0, 4), 16);
    }

    private static void again() {
        told("again 0 times with stone 1", 1, 13, 0, 14, 1, 15, 1);
        told("again 5 times with bleach 20", 1, 13, 5, 14, 2, 15, 20);
        told("again 1 times with wash 20", 1, 13, 1, 14, 0, 15, 20);
        wrong("again 6 times with wash 1", 6);
        wrong("again -1 times with wash 1", 6);
        wrong("again 5 times with wash 0", 24);
        wrong("again 5 times with wash 21", 24);
        wrong("again 5 times with stone 0", 25);
        wrong("again 5 times with stone 21", 25);
        wrong("again 5 times with bleach 0", 26);
        wrong("again 5 times with bleach 21", 26);
        wrong("again 5 times with rinse", 19);
        wrong("again 5 times with rinse 1", 19);
        wrong("again 5 times with", 18);
        wrong("again 5 times", 13);
        wrong("again 5", 7);
        wrong("again", 5);
        wrong("again 1 time with wash 1", 8);
        wrong("again times with wash 1", 6);
    }

    private static void pack() {
        bounds("pack", 1, 20, 16);
    }

    private static void band() {
        bounds("band", 0, 50, 17);
    }

    private static void bathAlone() {
        String[] rules = {"bears", "minutes"};
        for (String rule : rules) {
            for (String bath : BATHS) {
                Check.is(rule + " " + bath, Check.house(new TrouserWash(), rule + " " + bath + " 5"), 1);
                wrong(rule + " " + bath + " 5 5", rule.length() + bath.length() + 4);
            }
            wrong(rule + " wast 5", rule.length() + 1);
            wrong(rule + " 5", rule.length() + 1);
            wrong(rule + " pack 5", rule.length() + 1);
        }
        told("pours rinse to 3", 1, 7, 3);
        wrong("pours rinse 1 to 3", 12);
        wrong("pours to 3", 6);
        wrong("litres wash 3", 7);
    }

    private static void digits() {
        told("band 7", 1, 17, 7);
        told("band 07", 1, 17, 7);
        told("band 007", 1, 17, 7);
        wrong("band 0007", 5);
        told("bears wash 100", 1, 0, 100);
        wrong("bears wash 0100", 11);
        told("pours wash to 004", 1, 4, 4);
        wrong("pours wash to 0004", 14);
        told("litres 020", 1, 8, 20);
        wrong("litres 0020", 7);
        told("minutes wash 060", 1, 9, 60);
        wrong("minutes wash 0060", 13);
        told("again 005 times with wash 020", 1, 13, 5, 14, 0, 15, 20);
        wrong("again 0005 times with wash 020", 6);
        wrong("again 005 times with wash 0020", 26);
        told("pack 020", 1, 16, 20);
        wrong("pack 0020", 5);
        wrong("band", 4);
        wrong("band 99999999999", 5);
        wrong("band 4294967296", 5);
    }

    private static void asInTheRecipe() {
        told("", 0);
        told(" ", 0);
        told(" ".repeat(400), 0);
        told("pack7;band7", 2, 16, 7, 17, 7);
        told("   pours   wash   to   3   ;   band   7   ", 2, 4, 3, 17, 7);
        told("again5times with stone7", 1, 13, 5, 14, 1, 15, 7);
        wrong("packa 7", 0);
        wrong("pac 7", 0);
        wrong("pack`7", 4);
        wrong("pack{7", 4);
        wrong("Pack 7", 0);
        wrong("pack\t7", 4);
        wrong("pack!7", 4);
        wrong("pours washto 3", 6);
        wrong("pack 7;", 7);
        wrong("pack 7; ", 8);
        wrong(";", 0);
        wrong("wash 5", 0);
        String many = "band 7" + ";band 7".repeat(23);
        told(many, 24, 17, 7);
        told(many + "  ", 24, 17, 7);
        wrong(many + ";  pack 5", 170);
        wrong(many + ";  pack 99", 170);
        wrong(many + ";  x", 170);
        wrong(many + ";", 168);
        wrong(many + ";  ", 170);
        wrong(many + " x", 168);
    }

    private static void asAtFirst() {
        TrouserWash x = new TrouserWash();
        telling(x, "nothing yet");
        String[] rules = {"bears stone 1", "pours bleach to 0", "litres 6", "minutes rinse 5",
                "again 1 times with bleach 2", "pack 6", "band 5"};
        int[][] due = {{1, 1}, {6, 0}, {8, 6}, {12, 5}, {13, 1, 14, 2, 15, 2}, {16, 6}, {17, 5}};
        for (int i = 0; i < rules.length; i++) {
            Check.is("house '" + rules[i] + "'", Check.house(x, rules[i]), 1);
            telling(x, rules[i], due[i]);
        }
        Check.is("an empty one", x.house(), 0);
        telling(x, "");
    }

    private static void lastCounts() {
        told("pack 7;pack 20;pack 1", 3, 16, 1);
        told("bears wash 9;bears stone 8;bears wash 0", 3, 1, 8);
        told("pours wash to 1;pours wash to 2", 2, 4, 2);
        told("pours wash to 1;pours wash away", 2);
        told("pours wash away;pours wash to 1", 2, 4, 1);
        told("minutes rinse 9;minutes rinse 8", 2, 12, 8);
        told("litres 1;litres 20", 2, 8, 20);
        told("again 5 times with stone 9;again 0 times with bleach 2", 2, 13, 0, 14, 2, 15, 2);
        told("band 50;band 0" + ";band 3".repeat(22), 24, 17, 3);
    }

    private static void usesUp() {
        TrouserWash x = new TrouserWash();
        Check.is("two", Check.house(x, "pack 7;band 9"), 2);
        Check.is("no byte is left", x.end(1), false);
        Check.argument("a wrong one", () -> Check.house(x, "pack 8;band 51"));
        Check.is("no byte of it is left", x.end(1), false);
        telling(x, "the one before", 16, 7, 17, 9);
        Check.is("its RULES", x.count(18), 2);
        Check.is("the TAPE was empty", x.house(), 0);
        telling(x, "nothing");
        Check.is("no RULES", x.count(18), 0);
    }

    private static void whats() {
        told("bears wash 1;bears stone 2;bears bleach 3;bears rinse 4;pours wash to 0;pours stone to 1;pours bleach to 2;"
                + "pours rinse to 3;litres 6;minutes wash 7;minutes stone 8;minutes bleach 9;minutes rinse 10;"
                + "again 2 times with bleach 12;pack 13;band 14", 16, 0, 1, 1, 2, 2, 3, 3, 4, 4, 0, 5, 1, 6, 2, 7, 3, 8, 6,
                9, 7, 10, 8, 11, 9, 12, 10, 13, 2, 14, 2, 15, 12, 16, 13, 17, 14);
        told("", 0);
    }

    private static void anotherWhat() {
        Edge.whats("tells", 17, n -> new TrouserWash().tells(n));
    }
}
