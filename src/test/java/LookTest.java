import java.util.Random;

/** Promises 7 to 11: LOOK, COST, WISH and the CHEAPEST, the last one against all rows tried plainly. */
final class LookTest {
    private static final String[] ROW = {"wash 4", "stone 2", "bleach 3", "rinse"};

    public static void main(String[] args) {
        eachBath();
        neverBelowNothing();
        lookWrong();
        cost();
        meets();
        cheapestEdges();
        cheapestAgainstAllRows();
        cheapestOfLongRows();
        Check.done("LookTest");
    }

    private static void spans(String text, int hard, int... due) {
        TrouserWash x = new TrouserWash();
        x.cloth(7, 7, 7);
        int cloth = x.cloth(100, 80, hard);
        Check.recipe(x, text);
        for (int what = 0; what < 5; what++) {
            Check.is("look of " + text + ", what " + what, x.look(cloth, 20, what), due[what]);
        }
    }

    private static void eachBath() {
        spans("", 0, 100, 100, 80, 80, 0);
        spans("wash 7", 9, 93, 97, 80, 80, 0);
        spans("wash 1", 0, 99, 100, 80, 80, 0);
        spans("stone 4", 9, 93, 96, 74, 76, 0);
        spans("bleach 5", 0, 85, 90, 75, 80, 1);
        spans("bleach 5", 9, 94, 99, 75, 80, 1);
        spans("bleach 3", 9, 100, 100, 77, 80, 1);
        spans("bleach 4", 9, 97, 100, 76, 80, 1);
        spans("bleach 5;rinse", 0, 85, 90, 75, 80, 0);
        spans("rinse", 0, 100, 100, 80, 80, 0);
        spans("bleach 1;stone 1", 0, 93, 97, 71, 74, 1);
        spans("bleach 1;rinse;stone 1", 0, 93, 97, 76, 79, 0);
        spans("bleach 1;wash 2;stone 1", 0, 91, 96, 71, 74, 1);
    }

    private static void neverBelowNothing() {
        TrouserWash x = new TrouserWash();
        x.cloth(10, 9, 0);
        Check.recipe(x, "stone 8;bleach 1;stone 1");
        int[][] due = {{10, 10, 9, 9, 0}, {0, 2, 0, 1, 0}, {0, 0, 0, 1, 1}, {0, 0, 0, 0, 1}};
        for (int baths = 0; baths < 4; baths++) {
            for (int what = 0; what < 5; what++) {
                Check.is("look after " + baths + ", what " + what, x.look(0, baths, what), due[baths][what]);
            }
        }
        Check.is("more baths than there are", x.look(0, Integer.MAX_VALUE, 4), 1);
    }

    private static void lookWrong() {
        TrouserWash x = new TrouserWash();
        Check.index("look of no cloth", () -> x.look(0, -1, 9));
        x.cloth(1, 1, 1);
        Check.index("look of cloth 1", () -> x.look(1, 0, 0));
        Check.index("look of cloth -1", () -> x.look(-1, 0, 0));
        Check.argument("baths below 0, ahead of what", () -> x.look(0, -1, 9));
        Check.element("what 5", () -> x.look(0, 0, 5));
        Check.element("what -1", () -> x.look(0, 0, -1));
    }

    private static void cost() {
        TrouserWash x = new TrouserWash();
        Check.is("cost of none", x.cost(), 0);
        Check.recipe(x, "wash 7");
        Check.is("cost of wash 7", x.cost(), 7);
        Check.recipe(x, "stone 7");
        Check.is("cost of stone 7", x.cost(), 21);
        Check.recipe(x, "bleach 7");
        Check.is("cost of bleach 7", x.cost(), 15);
        Check.recipe(x, "rinse;rinse;bleach 20");
        Check.is("cost of three", x.cost(), 43);
    }

    private static void meets() {
        TrouserWash x = new TrouserWash();
        Check.index("meets of no cloth", () -> x.meets(0, 1, 0, 0));
        x.cloth(100, 80, 0);
        Check.recipe(x, "bleach 5;rinse");
        Check.is("just", x.meets(0, 85, 90, 75), true);
        Check.is("too light", x.meets(0, 86, 90, 75), false);
        Check.is("too dark", x.meets(0, 85, 89, 75), false);
        Check.is("too weak", x.meets(0, 85, 90, 76), false);
        Check.recipe(x, "bleach 5");
        Check.is("with lye", x.meets(0, 0, 255, 0), false);
        int[][] none = {{-1, 5, 0}, {5, 4, 0}, {0, 256, 0}, {0, 0, -1}, {0, 0, 256}};
        for (int[] n : none) {
            Check.argument("meets of no wish", () -> x.meets(0, n[0], n[1], n[2]));
            Check.argument("cheapest of no wish", () -> x.cheapest(0, n[0], n[1], n[2], 0));
            Check.argument("bath of no wish", () -> x.bath(0, n[0], n[1], n[2], 0, 0));
        }
        Check.index("meets of cloth 1", () -> x.meets(1, 5, 4, 0));
    }

    private static void cheapestEdges() {
        TrouserWash x = new TrouserWash();
        x.cloth(20, 50, 0);
        Check.index("cheapest of cloth 1", () -> x.cheapest(1, 5, 4, 0, 9));
        Check.index("bath of cloth -1", () -> x.bath(-1, 5, 4, 0, 9, 0));
        Check.argument("most 7", () -> x.cheapest(0, 0, 0, 0, 7));
        Check.argument("most -1", () -> x.cheapest(0, 0, 0, 0, -1));
        Check.argument("bath, most 7", () -> x.bath(0, 0, 0, 0, 7, 0));
        Check.is("nothing to do", x.cheapest(0, 20, 20, 50, 6), 0);
        Check.is("no bath then", x.bath(0, 20, 20, 50, 6, 0), -1);
        Check.is("none", x.cheapest(0, 19, 19, 0, 6), -1);
        Check.is("no bath of none", x.bath(0, 19, 19, 0, 6, 0), -1);
        Check.is("bath -1", x.bath(0, 16, 18, 50, 1, -1), -1);
        Check.is("bath 0", x.bath(0, 16, 18, 50, 1, 0), 0);
        Check.is("bath of the greatest number", x.bath(0, 16, 18, 50, 1, Integer.MAX_VALUE), -1);
    }

    private static void cheapestAgainstAllRows() {
        Random random = new Random(1);
        for (int i = 0; i < 300; i++) {
            TrouserWash x = new TrouserWash();
            int shade = random.nextInt(random.nextBoolean() ? 40 : 256);
            x.cloth(shade, random.nextInt(60), random.nextInt(10));
            int from = Math.max(0, shade - random.nextInt(40));
            int to = Math.min(255, from + random.nextInt(20));
            int strength = random.nextInt(30);
            int most = random.nextInt(5);
            int[] best = plainly(x, from, to, strength, most);
            String what = "cheapest of " + from + " to " + to + ", " + strength + ", " + most;
            Check.is(what, x.cheapest(0, from, to, strength, most), best[0]);
            for (int k = 0; k < 7; k++) {
                int due = k + 1 < best.length ? best[k + 1] : -1;
                Check.is(what + ", bath " + k, x.bath(0, from, to, strength, most, k), due);
            }
        }
    }

    /** Tries every row as a recipe, fewest first: the COST and the BATHS of the first of the least COST. */
    private static int[] plainly(TrouserWash x, int from, int to, int strength, int most) {
        int[] best = {-1};
        for (int length = 0; length <= most; length++) {
            for (int number = 0; number < 1 << 2 * length; number++) {
                StringBuilder text = new StringBuilder();
                int[] row = new int[length + 1];
                for (int k = 0; k < length; k++) {
                    int bath = number >> 2 * (length - 1 - k) & 3;
                    row[k + 1] = bath;
                    text.append(k == 0 ? "" : ";").append(ROW[bath]);
                }
                Check.recipe(x, text.toString());
                row[0] = x.cost();
                if (x.meets(0, from, to, strength) && (best[0] == -1 || row[0] < best[0])) {
                    best = row;
                }
            }
        }
        return best;
    }

    /** The WISH is just what a row of many BATHS comes to, so that the CHEAPEST is mostly a long one. */
    private static void cheapestOfLongRows() {
        Random random = new Random(2);
        for (int i = 0; i < 200; i++) {
            int hard = random.nextInt(10);
            int[] cloth = {random.nextInt(200), 0, random.nextInt(100), 0};
            cloth[1] = cloth[0];
            int most = 5 + random.nextInt(2);
            int[] wish = cloth;
            for (int k = 0; k < most - 1; k++) {
                wish = after(wish, random.nextInt(3), hard);
            }
            int[] wishAndMost = {wish[0], wish[1], wish[2], most};
            int[] best = bestRow(cloth, hard, wishAndMost, new int[] {0}, new int[] {-1});
            TrouserWash x = new TrouserWash();
            x.cloth(cloth[0], cloth[2], hard);
            String what = "cheapest of " + wish[0] + " to " + wish[1] + ", " + wish[2] + ", " + most;
            Check.is(what, x.cheapest(0, wish[0], wish[1], wish[2], most), best[0]);
            for (int k = 0; k < 7; k++) {
                int due = k + 1 < best.length ? best[k + 1] : -1;
                Check.is(what + ", bath " + k, x.bath(0, wish[0], wish[1], wish[2], most, k), due);
            }
        }
    }

    /** The least and the greatest SHADE, the least STRENGTH, and 1 with LYE, after one more of the four BATHS. */
    private static int[] after(int[] look, int bath, int hard) {
        int[][] less = {{4, 2, 0}, {5, 2, 4 + 5 * look[3]}, {Math.max(0, 9 - hard), Math.max(0, 6 - hard), 3},
            {0, 0, 0}};
        int[] next = {0, 0, 0, bath == 2 ? 1 : bath == 3 ? 0 : look[3]};
        for (int k = 0; k < 3; k++) {
            next[k] = Math.max(0, look[k] - less[bath][k]);
        }
        return next;
    }

    /** All rows that go on from this one, none left out; a row is its COST, then its BATHS. */
    private static int[] bestRow(int[] look, int hard, int[] wish, int[] row, int[] best) {
        if (look[0] >= wish[0] && look[1] <= wish[1] && look[2] >= wish[2] && look[3] == 0 && isBetter(row, best)) {
            best = row;
        }
        for (int bath = 0; bath < 4 && row.length <= wish[3]; bath++) {
            int[] longer = java.util.Arrays.copyOf(row, row.length + 1);
            longer[row.length] = bath;
            longer[0] += new int[] {4, 6, 7, 1}[bath];
            best = bestRow(after(look, bath, hard), hard, wish, longer, best);
        }
        return best;
    }

    /** Rows of one length come in the order BATH by BATH, so of two such the one that came first stays. */
    private static boolean isBetter(int[] row, int[] best) {
        return best[0] == -1 || row[0] < best[0] || row[0] == best[0] && row.length < best.length;
    }
}
