/** Promises 12 to 15, and part 2 of the terms: a test for each sentence that names a boundary case. */
final class EdgeOrderTest {
    public static void main(String[] args) {
        Edge.of("KINDS of batches 0 to 5", EdgeOrderTest::kinds);
        Edge.of("CARRY from one to another one (0 to 100 litres to wash out between; 0 at first; 0 from one to itself)",
                EdgeOrderTest::litres);
        Edge.of("or BARRED (one never right behind the other).", EdgeOrderTest::barred);
        Edge.of("BATCHES (at most 9) of KINDS.", EdgeOrderTest::nineBatches);
        Edge.of("ORDER: the least sum of CARRY, of all orders of the BATCHES in which none is BARRED by the one right "
                + "ahead", EdgeOrderTest::leastSum);
        Edge.of("none, if there is no such order.", EdgeOrderTest::noOrder);
        Edge.of("CARRY from a KIND to another one; NONE: it is BARRED.", EdgeOrderTest::noneBars);
        Edge.of("IllegalArgumentException: not NONE to 100, or both are one.", EdgeOrderTest::carryNumbers);
        Edge.of("A BATCH: how many there are; NONE, and it does not come, if there are 9.", EdgeOrderTest::tenthBatch);
        Edge.of("ORDER (0 without BATCHES); NONE.", EdgeOrderTest::withoutBatches);
        Edge.of("No BATCHES any more: how many there were.", EdgeOrderTest::clearing);
        Check.done("EdgeOrderTest");
    }

    private static TrouserWash withBatches(int... kinds) {
        TrouserWash x = new TrouserWash();
        for (int kind : kinds) {
            x.batch(kind);
        }
        return x;
    }

    private static void kinds() {
        Edge.numbered("KIND of a BATCH", 6, n -> new TrouserWash().batch(n));
        Edge.numbered("KIND from which", 6, n -> Edge.did(() -> new TrouserWash().carry(n, n == 0 ? 5 : 0, 1)));
        Edge.numbered("KIND to which", 6, n -> Edge.did(() -> new TrouserWash().carry(n == 5 ? 0 : 5, n, 1)));
        TrouserWash x = withBatches(0, 5);
        x.carry(0, 5, 30);
        x.carry(5, 0, 20);
        Check.is("the first and the last KIND", x.order(), 20);
    }

    private static void litres() {
        for (int a = 0; a < 6; a++) {
            for (int b = 0; b < 6; b++) {
                Check.is("at first, " + a + " and " + b, withBatches(a, b).order(), 0);
            }
        }
        int[] taken = {0, 1, 99, 100};
        for (int litres : taken) {
            TrouserWash x = withBatches(2, 3);
            x.carry(2, 3, litres);
            x.carry(3, 2, litres);
            Check.is("litres " + litres, x.order(), litres);
        }
        TrouserWash x = withBatches(4, 4);
        for (int other = 0; other < 6; other++) {
            if (other != 4) {
                x.carry(4, other, 100);
                x.carry(other, 4, 100);
            }
        }
        Check.is("from one to itself", x.order(), 0);
        x.batch(3);
        Check.is("and to another one", x.order(), 100);
    }

    private static void barred() {
        TrouserWash x = withBatches(0, 1);
        x.carry(0, 1, -1);
        x.carry(1, 0, 100);
        Check.is("the other way", x.order(), 100);
        x.carry(1, 0, -1);
        Check.is("both ways", x.order(), -1);
        x.batch(2);
        Check.is("one between them", x.order(), 0);
        TrouserWash y = withBatches(0, 0, 1);
        y.carry(0, 1, -1);
        y.carry(1, 0, 7);
        Check.is("1 ahead of both", y.order(), 7);
    }

    private static void nineBatches() {
        TrouserWash x = new TrouserWash();
        for (int a = 0; a < 6; a++) {
            for (int b = 0; b < 6; b++) {
                if (a != b) {
                    x.carry(a, b, 100);
                }
            }
        }
        int[] due = {0, 100, 200, 300, 400, 500, 500, 500, 500};
        for (int i = 0; i < 9; i++) {
            Check.is("a BATCH", x.batch(i % 6), i + 1);
            Check.is("their ORDER", x.order(), due[i]);
        }
        Check.is("no 10th", x.batch(3), -1);
        Check.is("their ORDER", x.order(), 500);
        Check.is("the first of nine counts", oneOfNine(0), 7);
        Check.is("the last of nine counts", oneOfNine(8), 7);
    }

    /** Nine BATCHES of which one alone is of another KIND. */
    private static int oneOfNine(int place) {
        TrouserWash x = new TrouserWash();
        x.carry(0, 5, 7);
        x.carry(5, 0, 7);
        for (int i = 0; i < 9; i++) {
            x.batch(i == place ? 5 : 0);
        }
        return x.order();
    }

    /** A ring 0 to 1 to 2 to 3 to 4 to 5 to 0 of 1 litre each, all else 50: it is cut where it is dearest. */
    private static void leastSum() {
        TrouserWash x = withBatches(3, 0, 5, 2, 4, 1);
        for (int a = 0; a < 6; a++) {
            for (int b = 0; b < 6; b++) {
                if (a != b) {
                    x.carry(a, b, b == (a + 1) % 6 ? 1 : 50);
                }
            }
        }
        Check.is("along the ring", x.order(), 5);
        x.carry(2, 3, 9);
        Check.is("cut between 2 and 3", x.order(), 5);
        x.carry(5, 0, 8);
        Check.is("one dear one is needed", x.order(), 12);
        x.carry(5, 0, -1);
        Check.is("cut where it is BARRED", x.order(), 13);
        x.carry(2, 3, -1);
        Check.is("0 1 2 and 3 4 5, neither right behind the other: cut once more", x.order(), 3 + 50 + 50);
    }

    private static void noOrder() {
        TrouserWash x = withBatches(0, 1);
        x.carry(0, 1, -1);
        x.carry(1, 0, -1);
        Check.is("two", x.order(), -1);
        x.carry(0, 1, 0);
        Check.is("one way", x.order(), 0);
        TrouserWash y = withBatches(3);
        for (int other = 0; other < 6; other++) {
            if (other != 3) {
                y.carry(3, other, -1);
                y.carry(other, 3, -1);
            }
        }
        Check.is("one alone", y.order(), 0);
        y.batch(3);
        Check.is("two of it", y.order(), 0);
        y.batch(2);
        Check.is("with another one", y.order(), -1);
        onceEach();
        TrouserWash z = withBatches(0, 1, 0, 1, 0, 1, 0, 1, 0);
        z.carry(0, 1, -1);
        z.carry(1, 0, -1);
        Check.is("nine", z.order(), -1);
        z.carry(1, 0, 100);
        Check.is("nine, one way", z.order(), 100);
    }

    /** KIND 0 may stand between all the others, but there is one BATCH of it alone. */
    private static void onceEach() {
        int[][] rows = {{0, 1, 2, 3}, {1, 2, 3, 0}, {1, 0, 2, 3}};
        for (int[] row : rows) {
            TrouserWash x = withBatches(row);
            for (int a = 1; a <= 3; a++) {
                x.carry(a, 0, 1);
                x.carry(0, a, 1);
                x.carry(a, a % 3 + 1, 100);
                x.carry(a % 3 + 1, a, 100);
            }
            Check.is("one dear CARRY is needed", x.order(), 102);
            for (int a = 1; a <= 3; a++) {
                x.carry(a, a % 3 + 1, -1);
                x.carry(a % 3 + 1, a, -1);
            }
            Check.is("which is BARRED", x.order(), -1);
            x.batch(0);
            Check.is("with a second BATCH of KIND 0", x.order(), 4);
        }
    }

    private static void noneBars() {
        TrouserWash x = withBatches(1, 2);
        x.carry(1, 2, 5);
        x.carry(2, 1, TrouserWash.NONE);
        Check.is("NONE", x.order(), 5);
        x.carry(2, 1, 0);
        Check.is("0 is not NONE", x.order(), 0);
        x.carry(2, 1, TrouserWash.NONE);
        x.carry(1, 2, TrouserWash.NONE);
        Check.is("NONE both", x.order(), -1);
    }

    private static void carryNumbers() {
        Edge.bounds("litres", -1, 100, n -> Edge.did(() -> new TrouserWash().carry(0, 1, n)));
        for (int kind = 0; kind < 6; kind++) {
            int k = kind;
            TrouserWash x = withBatches(k, k);
            Check.argument("both are " + k, () -> Edge.did(() -> x.carry(k, k, 5)));
            Check.argument("both are " + k + ", 0", () -> Edge.did(() -> x.carry(k, k, 0)));
            Check.argument("both are " + k + ", NONE", () -> Edge.did(() -> x.carry(k, k, -1)));
            Check.is("nothing changed", x.order(), 0);
        }
        TrouserWash x = withBatches(0, 1);
        x.carry(0, 1, 8);
        x.carry(1, 0, 8);
        Check.argument("101", () -> Edge.did(() -> x.carry(0, 1, 101)));
        Check.argument("-2", () -> Edge.did(() -> x.carry(1, 0, -2)));
        Check.is("nothing changed", x.order(), 8);
    }

    private static void tenthBatch() {
        TrouserWash x = new TrouserWash();
        for (int i = 1; i <= 9; i++) {
            Check.is("a BATCH", x.batch(0), i);
        }
        x.carry(0, 5, 100);
        x.carry(5, 0, 100);
        Check.is("a 10th", x.batch(5), -1);
        Check.is("it did not come", x.count(2), 9);
        Check.is("nor into the ORDER", x.order(), 0);
        Check.index("a 10th of no KIND", () -> x.batch(6));
        x.clear();
        Check.is("there is room again", x.batch(5), 1);
    }

    private static void withoutBatches() {
        TrouserWash x = new TrouserWash();
        Check.is("none", x.order(), 0);
        x.carry(0, 1, -1);
        x.carry(1, 0, -1);
        Check.is("none, BARRED", x.order(), 0);
        x.batch(0);
        Check.is("one", x.order(), 0);
        x.batch(1);
        Check.is("two", x.order(), -1);
        x.clear();
        Check.is("none any more", x.order(), 0);
    }

    private static void clearing() {
        TrouserWash x = new TrouserWash();
        Check.is("of none", x.clear(), 0);
        x.batch(1);
        Check.is("of one", x.clear(), 1);
        Check.is("no more there", x.count(2), 0);
        Check.is("cleared twice", x.clear(), 0);
        for (int i = 0; i < 10; i++) {
            x.batch(i % 6);
        }
        Check.is("of nine", x.clear(), 9);
        x.carry(2, 3, 6);
        x.carry(3, 2, 6);
        x.batch(2);
        x.batch(3);
        Check.is("CARRY stays, BATCHES are new", x.order(), 6);
    }
}
