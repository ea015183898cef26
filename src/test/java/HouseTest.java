/** Promises 23, 24 and 6: the house's text, what it tells, and its first wrong byte. */
final class HouseTest {
    private static final int[] AT_FIRST = {0, 0, 0, 0, -1, -1, -1, -1, 5, 3, 4, 5, 4, 0, 0, 1, 5, 4};

    public static void main(String[] args) {
        rightTexts();
        bounds();
        wrongTexts();
        mostRules();
        staysOrBeginsAnew();
        Check.done("HouseTest");
    }

    /** Pairs of a what and its number; all else must be as at first. */
    private static void tells(String text, int rules, int... pairs) {
        TrouserWash x = new TrouserWash();
        Check.is("house '" + text + "'", Check.house(x, text), rules);
        Check.is("its fault", x.fault(), -1);
        Check.is("its rules", x.count(18), rules);
        telling(x, text, pairs);
    }

    private static void telling(TrouserWash x, String text, int... pairs) {
        int[] due = AT_FIRST.clone();
        for (int i = 0; i < pairs.length; i += 2) {
            due[pairs[i]] = pairs[i + 1];
        }
        for (int what = 0; what < due.length; what++) {
            Check.is("tells(" + what + ") of '" + text + "'", x.tells(what), due[what]);
        }
    }

    private static void rightTexts() {
        TrouserWash x = new TrouserWash();
        telling(x, "nothing");
        Check.element("tells(-1)", () -> x.tells(-1));
        Check.element("tells(18)", () -> x.tells(18));
        tells("", 0);
        tells("   ", 0);
        tells("bears wash 10;bears stone 20;bears bleach 30;bears rinse 100", 4, 0, 10, 1, 20, 2, 30, 3, 100);
        tells("pours wash to 0;pours stone to 1;pours bleach to 4;pours rinse away", 4, 4, 0, 5, 1, 6, 4);
        tells("pours rinse to 3", 1, 7, 3);
        tells("litres 12", 1, 8, 12);
        tells("minutes wash 1;minutes stone 2;minutes bleach 60;minutes rinse 6", 4, 9, 1, 10, 2, 11, 60, 12, 6);
        tells("again 2 times with stone 7", 1, 13, 2, 14, 1, 15, 7);
        tells("again 5times with bleach20", 1, 13, 5, 14, 2, 15, 20);
        tells("pack 20 ; band 50", 2, 16, 20, 17, 50);
        tells("  pack 7;pack 9 ;pours wash to 1;pours wash away;litres 020", 5, 16, 9, 8, 20);
        tells("again 3 times with stone 7;again 0 times with wash 1", 2);
    }

    private static void bounds() {
        tells("bears wash 0", 1);
        wrong("bears wash 101", 11);
        tells("litres 1", 1, 8, 1);
        tells("litres 20", 1, 8, 20);
        wrong("litres 0", 7);
        wrong("litres 21", 7);
        wrong("minutes rinse 0", 14);
        wrong("minutes rinse 61", 14);
        wrong("again 6 times with wash 1", 6);
        wrong("again 1 times with wash 0", 24);
        wrong("again 1 times with wash 21", 24);
        tells("pack 1", 1, 16, 1);
        wrong("pack 0", 5);
        wrong("pack 21", 5);
        tells("band 000", 1, 17, 0);
        wrong("band 51", 5);
        wrong("band 0001", 5);
        wrong("pours wash to 5", 14);
        tells("pours wash to 004", 1, 4, 4);
    }

    private static void wrongTexts() {
        wrong("wash 5", 0);
        wrong("bears", 5);
        wrong("bears ", 6);
        wrong("bears 5", 6);
        wrong("bears wash", 10);
        wrong("bears wash ; pack 3", 11);
        wrong("bears wash 1 2", 13);
        wrong("bears wash 1 pack", 13);
        wrong("pours wash", 10);
        wrong("pours wash 3", 11);
        wrong("pours wash t 3", 11);
        wrong("pours wash toaway", 11);
        wrong("pours wash to", 13);
        wrong("pours wash to away", 14);
        wrong("pours wash away 3", 16);
        wrong("pours dry away", 6);
        wrong("litres wash 3", 7);
        wrong("minutes 3", 8);
        wrong("again", 5);
        wrong("again 1", 7);
        wrong("again 1 time with wash 1", 8);
        wrong("again 1 with wash 1", 8);
        wrong("again 1 times", 13);
        wrong("again 1 times wash 1", 14);
        wrong("again 1 times with", 18);
        wrong("again 1 times with rinse 1", 19);
        wrong("again 1 times with wash", 23);
        wrong("pack 5;", 7);
        wrong("pack 5; ", 8);
        wrong(";pack 5", 0);
        wrong("pack 5,", 6);
        wrong("Pack 5", 0);
        wrong("pack -5", 5);
    }

    private static void wrong(String text, int place) {
        TrouserWash x = new TrouserWash();
        Check.argument("house '" + text + "'", () -> Check.house(x, text));
        Check.is("fault of '" + text + "'", x.fault(), place);
        telling(x, text);
        Check.is("tape after '" + text + "'", x.end(1), false);
        Check.is("rules after '" + text + "'", x.count(18), 0);
    }

    private static void mostRules() {
        String many = "pack 7" + ";pack 7".repeat(23);
        tells(many, 24, 16, 7);
        wrong(many + "; pack 8", many.length() + 2);
        wrong(many + ";x", many.length() + 1);
        wrong(many + ";", many.length() + 1);
        wrong(many + " x", many.length() + 1);
    }

    private static void staysOrBeginsAnew() {
        TrouserWash x = new TrouserWash();
        Check.house(x, "pack 7;bears stone 40");
        Check.argument("a wrong text", () -> Check.house(x, "pack 8;band 3;litres"));
        Check.is("its fault", x.fault(), 20);
        telling(x, "the one before", 16, 7, 1, 40);
        Check.is("rules stay", x.count(18), 2);
        Check.is("a recipe", Check.recipe(x, "rinse"), 1);
        Check.is("fault of the latest", x.fault(), -1);
        Check.is("another house", Check.house(x, "band 3"), 1);
        telling(x, "band 3", 17, 3);
        Check.argument("a wrong recipe", () -> Check.recipe(x, "rinse?"));
        telling(x, "band 3", 17, 3);
        Check.is("an empty house", x.house(), 0);
        telling(x, "nothing");
        Check.is("the recipe stays", x.count(1), 1);
    }
}
