/** Promises 1 to 6: a new object, the TAPE, CLOTHS, and the RECIPE's text with its first wrong byte. */
final class RecipeTest {
    public static void main(String[] args) {
        newObject();
        tape();
        cloths();
        rightTexts();
        wrongTexts();
        mostBaths();
        wrongTextChangesNothing();
        bytesBehindTheEnd();
        Check.done("RecipeTest");
    }

    private static void newObject() {
        TrouserWash x = new TrouserWash();
        for (int what = 0; what <= 18; what++) {
            Check.is("new: count(" + what + ")", x.count(what), 0);
        }
        Check.is("new: fault", x.fault(), -1);
        Check.is("new: cost", x.cost(), 0);
        Check.is("new: recipe of an empty tape", x.recipe(), 0);
    }

    private static void tape() {
        TrouserWash x = new TrouserWash();
        Check.is("end(0) of nothing", x.end(0), true);
        Check.is("end(1) of nothing", x.end(1), false);
        for (int i = 1; i <= 20; i++) {
            Check.is("feed " + i, x.feed(0x20202020, 0x20202020, 0x20202020, 0x20202020, 0x20202020), 20 * i);
        }
        Check.is("feed above 400", x.feed(0, 0, 0, 0, 0), -1);
        Check.is("end(-1)", x.end(-1), false);
        Check.is("end(401)", x.end(401), false);
        Check.is("end(400)", x.end(400), true);
        Check.is("end(381)", x.end(381), true);
        Check.is("feed above 400, by one", x.feed(0, 0, 0, 0, 0), -1);
        Check.is("end(380)", x.end(380), true);
        Check.is("feed up to 400", x.feed(0, 0, 0, 0, 0), 400);
        Check.is("end(380) again", x.end(380), true);
        Check.is("blanks alone", x.recipe(), 0);
        Check.is("used up", x.end(1), false);
        Check.is("feed: the highest byte first", x.feed(0x77617368, 0x20372020, 0xFF000000, 0, 0), 20);
        Check.argument("a byte above 127", x::recipe);
        Check.is("its place", x.fault(), 8);
        Check.is("used up by a wrong text too", x.end(1), false);
    }

    /** What stood behind the place where the TAPE was cut is not read. */
    private static void bytesBehindTheEnd() {
        TrouserWash x = new TrouserWash();
        Check.put(x, "rinse;              ");
        x.end(6);
        Check.argument("cut ahead of blanks", x::recipe);
        Check.is("its place", x.fault(), 6);
        Check.put(x, "wash 12");
        x.end(6);
        Check.is("cut inside a number", x.recipe(), 1);
        Check.is("its cost", x.cost(), 1);
        Check.put(x, "rinses");
        x.end(5);
        Check.is("cut inside a word", x.recipe(), 1);
        Check.put(x, " ".repeat(400));
        Check.is("400 blanks", x.recipe(), 0);
        Check.put(x, " ".repeat(395) + "rinse");
        Check.is("a word that ends with the TAPE", x.recipe(), 1);
        Check.put(x, " ".repeat(394) + "wash20");
        Check.is("a number that ends with the TAPE", x.recipe(), 1);
        Check.put(x, " ".repeat(399) + "x");
        Check.argument("the last byte", x::recipe);
        Check.is("its place", x.fault(), 399);
    }

    private static void cloths() {
        TrouserWash x = new TrouserWash();
        int[][] none = {{-1, 0, 0}, {256, 0, 0}, {0, -1, 0}, {0, 256, 0}, {0, 0, -1}, {0, 0, 10}};
        for (int[] n : none) {
            Check.argument("cloth of a number that is none", () -> x.cloth(n[0], n[1], n[2]));
        }
        Check.is("cloth", x.cloth(0, 0, 0), 0);
        Check.is("cloth", x.cloth(255, 255, 9), 1);
        for (int i = 2; i < 6; i++) {
            Check.is("cloth", x.cloth(i, i, i), i);
        }
        Check.full("a 7th cloth", () -> x.cloth(1, 1, 1));
        Check.argument("a 7th cloth that is none", () -> x.cloth(1, 1, 10));
        Check.is("count of cloths", x.count(0), 6);
    }

    private static void rightTexts() {
        right("", 0, 0);
        right("   ", 0, 0);
        right("rinse", 1, 1);
        right("  wash 5 ; bleach 10;stone 3;rinse;  wash20  ", 5, 5 + 21 + 9 + 1 + 20);
        right("wash1;wash 01;wash 20;wash09", 4, 31);
        right("rinse;rinse", 2, 2);
    }

    private static void right(String text, int baths, int cost) {
        TrouserWash x = new TrouserWash();
        Check.is("recipe '" + text + "'", Check.recipe(x, text), baths);
        Check.is("its fault", x.fault(), -1);
        Check.is("its cost", x.cost(), cost);
        Check.is("its baths", x.count(1), baths);
    }

    private static void wrongTexts() {
        wrong(";", 0);
        wrong("  ;", 2);
        wrong("wash", 4);
        wrong("wash  ", 6);
        wrong("wash 0", 5);
        wrong("wash 00", 5);
        wrong("wash 21", 5);
        wrong("wash 99;x", 5);
        wrong("wash 001", 5);
        wrong("wash 1 2", 7);
        wrong("wash 1x", 6);
        wrong("wash -1", 5);
        wrong("washer 1", 0);
        wrong("was 1", 0);
        wrong("washz 1", 0);
        wrong("washa 1", 0);
        wrong("washstone 1", 0);
        wrong("Wash 1", 0);
        wrong("wAsh 1", 0);
        wrong("washA1", 4);
        wrong("5", 0);
        wrong("rinse 1", 6);
        wrong("rinse1", 5);
        wrong("rinse rinse", 6);
        wrong("rinse;", 6);
        wrong("rinse; ", 7);
        wrong("rinse;;rinse", 6);
        wrong("rinse,rinse", 5);
        wrong("rinse\trinse", 5);
        wrong("wash stone 3", 5);
        wrong("wash ; rinse", 5);
        wrong("stone 20 ; bleach 20 ; wash 20 ; rinsed", 33);
        wrong("bears wash 3", 0);
        wrong("\0", 0);
    }

    private static void wrong(String text, int place) {
        TrouserWash x = new TrouserWash();
        Check.argument("recipe '" + text + "'", () -> Check.recipe(x, text));
        Check.is("fault of '" + text + "'", x.fault(), place);
    }

    private static void mostBaths() {
        String twenty = "rinse" + ";rinse".repeat(19);
        right(twenty, 20, 20);
        right(twenty + "  ", 20, 20);
        wrong(twenty + "; rinse", twenty.length() + 2);
        wrong(twenty + ";wash 99", twenty.length() + 1);
        wrong(twenty + "; 5", twenty.length() + 2);
        wrong(twenty + "; ", twenty.length() + 2);
        wrong(twenty + " wash", twenty.length() + 1);
    }

    private static void wrongTextChangesNothing() {
        TrouserWash x = new TrouserWash();
        x.cloth(100, 100, 0);
        Check.recipe(x, "wash 6;stone 2");
        Check.argument("a wrong text", () -> Check.recipe(x, "bleach 9;stone"));
        Check.is("its fault", x.fault(), 14);
        Check.is("cost stays", x.cost(), 12);
        Check.is("baths stay", x.count(1), 2);
        Check.is("look stays", x.look(0, 20, 0), 89);
        Check.argument("another wrong text", () -> Check.recipe(x, "x"));
        Check.is("its fault", x.fault(), 0);
        Check.is("cost stays", x.cost(), 12);
        Check.is("an empty text", x.recipe(), 0);
        Check.is("fault is gone", x.fault(), -1);
        Check.is("cost of none", x.cost(), 0);
        Check.is("look of none", x.look(0, 20, 0), 100);
    }
}
