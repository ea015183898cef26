/** Promises 4 and 7 to 11, and CLOTHS, LOOK, COST, WISH and CHEAPEST: a test for each sentence with a boundary. */
final class EdgeLookTest {
    public static void main(String[] args) {
        Edge.of("CLOTHS (at most 6, numbered from 0 on): SHADE (0 to 255), STRENGTH (0 to 255), HARD (0 to 9).",
                EdgeLookTest::cloths);
        Edge.of("A CLOTH: its number. IllegalArgumentException: a number is none; UnsupportedOperationException: there "
                + "are 6.", EdgeLookTest::seventhCloth);
        Edge.of("A LOOK: a span of SHADE and one of STRENGTH, each from a least to a greatest number; and whether LYE is "
                + "in it. A CLOTH begins with its own numbers, and no LYE.", EdgeLookTest::begins);
        Edge.of("wash: SHADE is at least n halves, rounded down, and at most n less", EdgeLookTest::wash);
        Edge.of("stone: SHADE at least n and at most n and 3 less, STRENGTH at least n and at most n and 2 less",
                EdgeLookTest::stone);
        Edge.of("if there is LYE STRENGTH is 5 less besides", EdgeLookTest::stoneWithLye);
        Edge.of("bleach: SHADE at least 2 n and at most 3 n, less HARD (0 at least each), less", EdgeLookTest::bleach);
        Edge.of("STRENGTH at most n less (at least 0); and LYE is in it then", EdgeLookTest::bleachStrength);
        Edge.of("rinse: LYE is in it no more.", EdgeLookTest::rinse);
        Edge.of("(No number comes below 0.)", EdgeLookTest::notBelowNothing);
        Edge.of("What is at most taken off gives the least number, what is at least taken off the greatest.",
                EdgeLookTest::leastAndGreatest);
        Edge.of("COST of a BATH: wash n, stone 3 n, bleach 2 n and 1, rinse 1.", EdgeLookTest::costs);
        Edge.of("WISH: SHADE from one number to another one, STRENGTH at least so much: a LOOK SURELY meets it, if its "
                + "whole spans do, and no LYE is in it.", EdgeLookTest::surely);
        Edge.of("CHEAPEST: of all rows of at most so many (0 to 6) of the BATHS wash 4, stone 2, bleach 3, rinse",
                EdgeLookTest::soMany);
        Edge.of("that of the least COST, of several that with the fewest BATHS, of these the first in the order wash, "
                + "stone, bleach, rinse, BATH by BATH", EdgeLookTest::ofSeveral);
        Edge.of("none, if there is none.", EdgeLookTest::noRow);
        Edge.of("The LOOK of a CLOTH after the first so many BATHS of the RECIPE (all, if it has fewer)",
                EdgeLookTest::firstBaths);
        Edge.of("what 0 and 1 the least and the greatest SHADE, 2 and 3 STRENGTH, 4 1 with LYE, else 0.",
                EdgeLookTest::lookWhats);
        Edge.of("IllegalArgumentException: baths is below 0; NoSuchElementException: another what.",
                EdgeLookTest::bathsBelow);
        Edge.of("COST of the RECIPE.", EdgeLookTest::costOfRecipe);
        Edge.of("Whether a CLOTH SURELY meets a WISH after the RECIPE.", EdgeLookTest::meetsAfter);
        Edge.of("IllegalArgumentException: not 0 to from to to to 255, or STRENGTH is not 0 to 255.",
                EdgeLookTest::wishes);
        Edge.of("CHEAPEST: its COST; NONE. IllegalArgumentException likewise, or most is not 0 to 6.",
                EdgeLookTest::cheapestNumbers);
        Edge.of("BATH i (from 0 on) of the CHEAPEST: 0 wash, 1 stone, 2 bleach, 3 rinse; NONE if there is none such. "
                + "IllegalArgumentException likewise.", EdgeLookTest::bathNumbers);
        Check.done("EdgeLookTest");
    }

    private static TrouserWash withCloth(int shade, int strength, int hard) {
        TrouserWash x = new TrouserWash();
        x.cloth(shade, strength, hard);
        return x;
    }

    /** The least and the greatest SHADE, the same of STRENGTH, and LYE, of the CLOTH after the text. */
    private static void look(TrouserWash x, String text, int... due) {
        Check.recipe(x, text);
        for (int what = 0; what < due.length; what++) {
            Check.is("after '" + text + "' look " + what, x.look(0, 20, what), due[what]);
        }
    }

    private static void cloths() {
        for (int i = 0; i <= 6; i++) {
            TrouserWash x = new TrouserWash();
            for (int k = 0; k < i; k++) {
                Check.is("number of a CLOTH", x.cloth(k, 9, 9), k);
            }
            Check.is("how many", x.count(0), i);
        }
        Edge.bounds("SHADE", 0, 255, n -> new TrouserWash().cloth(n, 5, 5));
        Edge.bounds("STRENGTH", 0, 255, n -> new TrouserWash().cloth(5, n, 5));
        Edge.bounds("HARD", 0, 9, n -> new TrouserWash().cloth(5, 5, n));
    }

    private static void seventhCloth() {
        TrouserWash x = new TrouserWash();
        Check.argument("the first, a number is none", () -> x.cloth(256, 0, 0));
        for (int i = 0; i < 6; i++) {
            Check.is("number", x.cloth(10 * i, 0, 0), i);
        }
        Check.full("a 7th", () -> x.cloth(0, 0, 0));
        Check.argument("a 7th, SHADE is none", () -> x.cloth(-1, 0, 0));
        Check.argument("a 7th, STRENGTH is none", () -> x.cloth(0, 256, 0));
        Check.argument("a 7th, HARD is none", () -> x.cloth(0, 0, 10));
        Check.is("how many", x.count(0), 6);
        Check.is("the last stays", x.look(5, 0, 0), 50);
        Check.is("the first stays", x.look(0, 0, 0), 0);
    }

    private static void begins() {
        look(withCloth(0, 0, 0), "", 0, 0, 0, 0, 0);
        look(withCloth(255, 255, 9), "", 255, 255, 255, 255, 0);
        look(withCloth(255, 0, 9), "", 255, 255, 0, 0, 0);
        look(withCloth(0, 255, 0), "", 0, 0, 255, 255, 0);
    }

    private static void wash() {
        TrouserWash x = withCloth(100, 80, 9);
        look(x, "wash 1", 99, 100, 80, 80, 0);
        look(x, "wash 2", 98, 99, 80, 80, 0);
        look(x, "wash 3", 97, 99, 80, 80, 0);
        look(x, "wash 19", 81, 91, 80, 80, 0);
        look(x, "wash 20", 80, 90, 80, 80, 0);
        look(x, "wash 1;wash 1", 98, 100, 80, 80, 0);
    }

    private static void stone() {
        TrouserWash x = withCloth(100, 80, 9);
        look(x, "stone 1", 96, 99, 77, 79, 0);
        look(x, "stone 2", 95, 98, 76, 78, 0);
        look(x, "stone 20", 77, 80, 58, 60, 0);
    }

    private static void stoneWithLye() {
        TrouserWash x = withCloth(100, 80, 9);
        look(x, "bleach 1;stone 1", 96, 99, 71, 74, 1);
        look(x, "bleach 1;rinse;stone 1", 96, 99, 76, 79, 0);
        look(x, "stone 1;bleach 1", 96, 99, 76, 79, 1);
        look(x, "bleach 1;wash 1;stone 1;stone 1", 91, 98, 63, 68, 1);
        look(x, "rinse;stone 1", 96, 99, 77, 79, 0);
        look(withCloth(100, 6, 9), "bleach 1;stone 1", 96, 99, 0, 0, 1);
        look(withCloth(100, 7, 9), "bleach 1;stone 1", 96, 99, 0, 1, 1);
        look(withCloth(100, 9, 9), "bleach 1;stone 1", 96, 99, 0, 3, 1);
        look(withCloth(100, 10, 9), "bleach 1;stone 1", 96, 99, 1, 4, 1);
    }

    private static void bleach() {
        look(withCloth(100, 80, 0), "bleach 1", 97, 98);
        look(withCloth(100, 80, 1), "bleach 1", 98, 99);
        look(withCloth(100, 80, 2), "bleach 1", 99, 100);
        look(withCloth(100, 80, 3), "bleach 1", 100, 100);
        look(withCloth(100, 80, 4), "bleach 1", 100, 100);
        look(withCloth(100, 80, 9), "bleach 1", 100, 100);
        look(withCloth(100, 80, 9), "bleach 3", 100, 100);
        look(withCloth(100, 80, 8), "bleach 3", 99, 100);
        look(withCloth(100, 80, 8), "bleach 4", 96, 100);
        look(withCloth(100, 80, 7), "bleach 4", 95, 99);
        look(withCloth(100, 80, 9), "bleach 5", 94, 99);
        look(withCloth(100, 80, 0), "bleach 20", 40, 60);
        look(withCloth(100, 80, 9), "bleach 20", 49, 69);
    }

    private static void bleachStrength() {
        look(withCloth(100, 80, 9), "bleach 1", 100, 100, 79, 80, 1);
        look(withCloth(100, 80, 9), "bleach 20", 49, 69, 60, 80, 1);
        look(withCloth(100, 20, 9), "bleach 20", 49, 69, 0, 20, 1);
        look(withCloth(100, 19, 9), "bleach 20", 49, 69, 0, 19, 1);
        look(withCloth(100, 21, 9), "bleach 20", 49, 69, 1, 21, 1);
        look(withCloth(100, 80, 9), "", 100, 100, 80, 80, 0);
    }

    private static void rinse() {
        TrouserWash x = withCloth(100, 80, 9);
        look(x, "bleach 1", 100, 100, 79, 80, 1);
        look(x, "bleach 1;rinse", 100, 100, 79, 80, 0);
        look(x, "rinse", 100, 100, 80, 80, 0);
        look(x, "rinse;bleach 1", 100, 100, 79, 80, 1);
        look(x, "bleach 1;rinse;bleach 1", 100, 100, 78, 80, 1);
        look(x, "bleach 1;rinse;rinse", 100, 100, 79, 80, 0);
        look(x, "bleach 1;wash 1", 99, 100, 79, 80, 1);
    }

    private static void notBelowNothing() {
        look(withCloth(5, 80, 0), "wash 4", 1, 3);
        look(withCloth(4, 80, 0), "wash 4", 0, 2);
        look(withCloth(3, 80, 0), "wash 4", 0, 1);
        look(withCloth(2, 80, 0), "wash 4", 0, 0);
        look(withCloth(1, 80, 0), "wash 4", 0, 0);
        look(withCloth(0, 0, 0), "wash 20;stone 20;bleach 20;stone 20", 0, 0, 0, 0, 1);
        look(withCloth(8, 7, 0), "stone 5", 0, 3, 0, 2);
        look(withCloth(9, 8, 0), "stone 5", 1, 4, 1, 3);
        look(withCloth(5, 5, 0), "stone 5", 0, 0, 0, 0);
        look(withCloth(4, 4, 0), "stone 5", 0, 0, 0, 0);
        look(withCloth(6, 80, 0), "bleach 2", 0, 2);
        look(withCloth(7, 80, 0), "bleach 2", 1, 3);
        look(withCloth(3, 80, 0), "bleach 2", 0, 0);
    }

    private static void leastAndGreatest() {
        TrouserWash x = withCloth(200, 150, 1);
        look(x, "wash 5", 195, 198, 150, 150);
        look(x, "wash 5;stone 5", 187, 193, 143, 145);
        look(x, "wash 5;stone 5;bleach 5", 173, 184, 138, 145);
    }

    private static void costs() {
        int[] ns = {1, 2, 19, 20};
        for (int n : ns) {
            TrouserWash x = new TrouserWash();
            Check.recipe(x, "wash " + n);
            Check.is("wash " + n, x.cost(), n);
            Check.recipe(x, "stone " + n);
            Check.is("stone " + n, x.cost(), 3 * n);
            Check.recipe(x, "bleach " + n);
            Check.is("bleach " + n, x.cost(), 2 * n + 1);
        }
        TrouserWash x = new TrouserWash();
        Check.recipe(x, "rinse");
        Check.is("rinse", x.cost(), 1);
    }

    /** After bleach 5 and a rinse: SHADE 85 to 90, STRENGTH 75 to 80. */
    private static void surely() {
        TrouserWash x = withCloth(100, 80, 0);
        Check.recipe(x, "bleach 5;rinse");
        Check.is("just", x.meets(0, 85, 90, 75), true);
        Check.is("from one more", x.meets(0, 86, 90, 75), false);
        Check.is("to one less", x.meets(0, 85, 89, 75), false);
        Check.is("STRENGTH one more", x.meets(0, 85, 90, 76), false);
        Check.is("wider", x.meets(0, 84, 91, 74), true);
        Check.is("as wide as can be", x.meets(0, 0, 255, 0), true);
        Check.recipe(x, "bleach 5");
        Check.is("with LYE", x.meets(0, 0, 255, 0), false);
        TrouserWash y = withCloth(0, 0, 0);
        Check.is("nothing at all", y.meets(0, 0, 0, 0), true);
        Check.is("not quite nothing", y.meets(0, 1, 1, 0), false);
        TrouserWash z = withCloth(255, 255, 0);
        Check.is("all there can be", z.meets(0, 255, 255, 255), true);
        Check.is("one less", z.meets(0, 254, 254, 255), false);
    }

    /** Each wash 4 takes 2 to 4 off: after six of them 76 to 88 is left of 100. */
    private static void soMany() {
        TrouserWash x = withCloth(100, 80, 9);
        Check.is("none needed, 0 may be", x.cheapest(0, 100, 100, 80, 0), 0);
        Check.is("one needed, 0 may be", x.cheapest(0, 96, 98, 80, 0), -1);
        Check.is("one needed, 1 may be", x.cheapest(0, 96, 98, 80, 1), 4);
        for (int needed = 1; needed <= 6; needed++) {
            int from = 100 - 4 * needed;
            int to = 100 - 2 * needed;
            Check.is(needed + " needed, one less may be", x.cheapest(0, from, to, 80, needed - 1), -1);
            Check.is(needed + " needed, so many may be", x.cheapest(0, from, to, 80, needed), 4 * needed);
            Check.is("the last of them", x.bath(0, from, to, 80, needed, needed - 1), 0);
            Check.is("none behind it", x.bath(0, from, to, 80, needed, needed), -1);
        }
        Check.is("seven needed", x.cheapest(0, 72, 86, 80, 6), -1);
        TrouserWash y = withCloth(100, 80, 0);
        Check.is("bleach and rinse, 1 may be", y.cheapest(0, 91, 94, 77, 1), -1);
        Check.is("bleach and rinse, 2 may be", y.cheapest(0, 91, 94, 77, 2), 8);
        Check.is("its first", y.bath(0, 91, 94, 77, 2, 0), 2);
        Check.is("its second", y.bath(0, 91, 94, 77, 2, 1), 3);
    }

    /** wash, wash and bleach, rinse are of one COST; so are the orders of wash, bleach, rinse and three times wash. */
    private static void ofSeveral() {
        TrouserWash x = withCloth(100, 80, 1);
        row(x, 92, 96, 77, 2, 8, 0, 0);
        row(x, 92, 95, 77, 2, 8, 2, 3);
        row(x, 92, 95, 77, 6, 8, 2, 3);
        row(x, 88, 93, 77, 3, 12, 0, 2, 3);
        row(x, 88, 94, 77, 3, 12, 0, 0, 0);
        row(x, 88, 98, 0, 6, 4, 0);
        row(x, 0, 100, 0, 6, 0);
        row(x, 0, 99, 0, 6, 4, 0);
        TrouserWash y = withCloth(100, 80, 0);
        row(y, 82, 88, 74, 6, 15, 2, 2, 3);
        row(y, 82, 90, 74, 6, 15, 2, 2, 3);
        row(y, 82, 90, 75, 6, 16, 0, 0, 2, 3);
    }

    private static void row(TrouserWash x, int from, int to, int strength, int most, int cost, int... baths) {
        String wish = from + " to " + to + ", " + strength + ", at most " + most;
        Check.is("COST for " + wish, x.cheapest(0, from, to, strength, most), cost);
        for (int i = 0; i < baths.length; i++) {
            Check.is("BATH " + i + " for " + wish, x.bath(0, from, to, strength, most, i), baths[i]);
        }
        Check.is("no BATH more for " + wish, x.bath(0, from, to, strength, most, baths.length), -1);
    }

    private static void noRow() {
        TrouserWash x = withCloth(100, 80, 0);
        Check.is("darker than it is", x.cheapest(0, 101, 255, 0, 6), -1);
        Check.is("as dark as it is", x.cheapest(0, 100, 255, 0, 6), 0);
        Check.is("stronger than it is", x.cheapest(0, 0, 255, 81, 6), -1);
        Check.is("as strong as it is", x.cheapest(0, 0, 255, 80, 6), 0);
        Check.is("a span too narrow", x.cheapest(0, 97, 98, 0, 6), -1);
        Check.is("a span just wide enough", x.cheapest(0, 96, 98, 0, 6), 4);
        Check.is("no BATH 0 of none", x.bath(0, 97, 98, 0, 6, 0), -1);
        Check.is("BATH 0 of one", x.bath(0, 96, 98, 0, 6, 0), 0);
    }

    private static void firstBaths() {
        TrouserWash x = withCloth(100, 80, 0);
        Check.is("0 of none", x.look(0, 0, 0), 100);
        Check.is("1 of none", x.look(0, 1, 0), 100);
        Check.recipe(x, "wash 1;wash 2;wash 3");
        int[] due = {100, 99, 97, 94, 94, 94};
        for (int baths = 0; baths < due.length; baths++) {
            Check.is("after " + baths + " of 3", x.look(0, baths, 0), due[baths]);
        }
        Check.is("after the greatest number", x.look(0, Integer.MAX_VALUE, 0), 94);
        Check.recipe(x, "wash 1" + ";wash 1".repeat(19));
        Check.is("after 19 of 20", x.look(0, 19, 0), 81);
        Check.is("after 20 of 20", x.look(0, 20, 0), 80);
        Check.is("after 21 of 20", x.look(0, 21, 0), 80);
    }

    private static void lookWhats() {
        TrouserWash x = withCloth(100, 80, 0);
        look(x, "stone 2;bleach 3", 86, 92, 73, 78, 1);
        look(x, "stone 2;bleach 3;rinse", 86, 92, 73, 78, 0);
        Edge.whats("what", 4, what -> x.look(0, 0, what));
    }

    private static void bathsBelow() {
        TrouserWash x = withCloth(100, 80, 0);
        Check.argument("-1", () -> x.look(0, -1, 0));
        Check.argument("the least number", () -> x.look(0, Integer.MIN_VALUE, 0));
        Check.is("0", x.look(0, 0, 0), 100);
        Check.argument("-1 and another what", () -> x.look(0, -1, 5));
        Check.element("0 and another what", () -> x.look(0, 0, 5));
        Check.element("0 and what -1", () -> x.look(0, 0, -1));
    }

    private static void costOfRecipe() {
        TrouserWash x = new TrouserWash();
        Check.is("of none", x.cost(), 0);
        Check.recipe(x, "rinse");
        Check.is("of the cheapest one", x.cost(), 1);
        Check.recipe(x, "stone 20" + ";stone 20".repeat(19));
        Check.is("of the dearest one", x.cost(), 1200);
        x.recipe();
        Check.is("of an empty text", x.cost(), 0);
    }

    private static void meetsAfter() {
        TrouserWash x = withCloth(100, 80, 0);
        x.cloth(50, 40, 0);
        Check.is("without a RECIPE", x.meets(0, 100, 100, 80), true);
        Check.is("the other CLOTH", x.meets(1, 100, 100, 80), false);
        Check.is("its own WISH", x.meets(1, 50, 50, 40), true);
        Check.recipe(x, "wash 1;wash 1");
        Check.is("after both BATHS", x.meets(0, 98, 100, 80), true);
        Check.is("not after the first alone", x.meets(0, 99, 100, 80), false);
    }

    private static void wishes() {
        TrouserWash x = withCloth(100, 80, 0);
        Edge.bounds("from, to 255", 0, 255, n -> x.meets(0, n, 255, 0));
        Edge.bounds("to, from 0", 0, 255, n -> x.meets(0, 0, n, 0));
        Edge.bounds("STRENGTH", 0, 255, n -> x.meets(0, 0, 255, n));
        Edge.bounds("from, to 7", 0, 7, n -> x.meets(0, n, 7, 0));
        Edge.bounds("to, from 7", 7, 255, n -> x.meets(0, 7, n, 0));
    }

    private static void cheapestNumbers() {
        TrouserWash x = withCloth(100, 80, 0);
        Edge.bounds("from, to 7", 0, 7, n -> x.cheapest(0, n, 7, 0, 1));
        Edge.bounds("to, from 7", 7, 255, n -> x.cheapest(0, 7, n, 0, 1));
        Edge.bounds("STRENGTH", 0, 255, n -> x.cheapest(0, 0, 255, n, 1));
        Edge.bounds("most", 0, 6, n -> x.cheapest(0, 0, 255, 0, n));
        Check.is("COST", x.cheapest(0, 96, 98, 80, 1), 4);
        Check.is("no COST at all", x.cheapest(0, 100, 100, 80, 1), 0);
        Check.is("NONE", x.cheapest(0, 99, 99, 80, 1), -1);
    }

    private static void bathNumbers() {
        TrouserWash x = withCloth(100, 80, 1);
        Edge.bounds("from, to 7", 0, 7, n -> x.bath(0, n, 7, 0, 1, 0));
        Edge.bounds("to, from 7", 7, 255, n -> x.bath(0, 7, n, 0, 1, 0));
        Edge.bounds("STRENGTH", 0, 255, n -> x.bath(0, 0, 255, n, 1, 0));
        Edge.bounds("most", 0, 6, n -> x.bath(0, 0, 255, 0, n, 0));
        int[] due = {-1, 0, 2, 3, -1};
        for (int i = 0; i < due.length; i++) {
            Check.is("BATH " + (i - 1) + " of three", x.bath(0, 88, 93, 77, 3, i - 1), due[i]);
        }
        Check.is("BATH 5 of three", x.bath(0, 88, 93, 77, 6, 5), -1);
        Check.is("BATH 6 of three", x.bath(0, 88, 93, 77, 6, 6), -1);
        Check.is("the least number", x.bath(0, 88, 93, 77, 3, Integer.MIN_VALUE), -1);
        Check.is("the greatest number", x.bath(0, 88, 93, 77, 3, Integer.MAX_VALUE), -1);
        Check.is("BATH 5 of six", x.bath(0, 76, 88, 80, 6, 5), 0);
        Check.is("BATH 6 of six", x.bath(0, 76, 88, 80, 6, 6), -1);
        Check.is("BATH 0 of no BATHS", x.bath(0, 100, 100, 80, 6, 0), -1);
    }
}
