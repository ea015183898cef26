/** Promises 20 to 22, and part 4 of the terms: a test for each sentence that names a boundary case. */
final class EdgeGarmentTest {
    public static void main(String[] args) {
        Edge.of("GARMENTS (at most 40) with a SHADE each (0 to 255).", EdgeGarmentTest::garments);
        Edge.of("SPREAD for k sorts (1 to 10): the least number d so that all can be sorted into k sorts or fewer, in "
                + "none of which two are unlike by more than d.", EdgeGarmentTest::spread);
        Edge.of("PACKS of n (1 to 20) for d: sorts begin at the least SHADE: each has all those at most d above its "
                + "least one; the next one begins at the least that is left", EdgeGarmentTest::sorts);
        Edge.of("each sort gives as many full PACKS of n as it can: how many in all", EdgeGarmentTest::fullPacks);
        Edge.of("LEFT: how many garments are in none.", EdgeGarmentTest::left);
        Edge.of("A GARMENT: how many there are; NONE, and it does not come, if there are 40. IllegalArgumentException: "
                + "SHADE is none.", EdgeGarmentTest::fortyFirst);
        Edge.of("SPREAD (0 without GARMENTS). IllegalArgumentException: k is none.", EdgeGarmentTest::noSpread);
        Edge.of("PACKS (left false) or LEFT. IllegalArgumentException: n is none, or d is below 0.",
                EdgeGarmentTest::packNumbers);
        Check.done("EdgeGarmentTest");
    }

    private static TrouserWash with(int... shades) {
        TrouserWash x = new TrouserWash();
        for (int shade : shades) {
            x.garment(shade);
        }
        return x;
    }

    private static void garments() {
        Edge.bounds("SHADE", 0, 255, n -> new TrouserWash().garment(n));
        TrouserWash x = new TrouserWash();
        for (int i = 1; i <= 40; i++) {
            Check.is("a GARMENT", x.garment(i % 2 * 255), i);
        }
        Check.is("no 41st", x.garment(9), -1);
        Check.is("SHADES 0 and 255", x.spread(1), 255);
        Check.is("in two sorts", x.spread(2), 0);
    }

    private static void spread() {
        TrouserWash x = with(10, 13, 20, 22, 40);
        int[] due = {30, 12, 3, 2, 0, 0, 0, 0, 0, 0};
        for (int k = 1; k <= 10; k++) {
            Check.is("for " + k + " sorts", x.spread(k), due[k - 1]);
        }
        Check.is("one GARMENT", with(255).spread(1), 0);
        Check.is("two alike", with(7, 7).spread(1), 0);
        Check.is("two unlike by 1", with(8, 7).spread(1), 1);
        Check.is("two unlike by 1, two sorts", with(8, 7).spread(2), 0);
        Check.is("two unlike by 255", with(255, 0).spread(1), 255);
        Check.is("two unlike by 254", with(255, 1).spread(1), 254);
        TrouserWash eleven = with(0, 20, 40, 60, 80, 100, 120, 140, 160, 180, 199);
        Check.is("eleven for 10 sorts", eleven.spread(10), 19);
        Check.is("eleven for 9 sorts", eleven.spread(9), 20);
    }

    private static void sorts() {
        Edge.bounds("n", 1, 20, n -> with(1).packs(n, 0, false));
        TrouserWash x = with(5, 9, 10, 12, 13, 14);
        Check.is("for 3: 5, 9 10 12, 13 14", x.packs(2, 3, false), 2);
        Check.is("for 4: 5 9, 10 12 13 14", x.packs(2, 4, false), 3);
        Check.is("for 4, packs of 3", x.packs(3, 4, false), 1);
        Check.is("for 5: 5 9 10, 12 13 14", x.packs(3, 5, false), 2);
        Check.is("for 8: 5 9 10 12 13, 14", x.packs(6, 8, false), 0);
        Check.is("for 9: all", x.packs(6, 9, false), 1);
        Check.is("for 0: each alone", x.packs(2, 0, false), 0);
        Check.is("for 0, packs of 1", x.packs(1, 0, false), 6);
        Check.is("the ends, for 254", with(255, 0).packs(2, 254, false), 0);
        Check.is("the ends, for 255", with(255, 0).packs(2, 255, false), 1);
    }

    private static void fullPacks() {
        int[] forty = new int[40];
        TrouserWash x = with(forty);
        int[][] due = {{1, 40}, {2, 20}, {13, 3}, {14, 2}, {19, 2}, {20, 2}};
        for (int[] d : due) {
            Check.is("40 alike, packs of " + d[0], x.packs(d[0], 0, false), d[1]);
        }
        Check.is("two alike, packs of 3", with(4, 4).packs(3, 0, false), 0);
        Check.is("three alike, packs of 3", with(4, 4, 4).packs(3, 0, false), 1);
        Check.is("five alike, packs of 3", with(4, 4, 4, 4, 4).packs(3, 0, false), 1);
        Check.is("six alike, packs of 3", with(4, 4, 4, 4, 4, 4).packs(3, 0, false), 2);
        Check.is("no pack of two sorts", with(4, 4, 9, 9).packs(4, 4, false), 0);
        Check.is("one sort", with(4, 4, 9, 9).packs(4, 5, false), 1);
    }

    private static void left() {
        TrouserWash x = with(4, 4, 4, 9, 9);
        Check.is("packs of 1", x.packs(1, 0, true), 0);
        Check.is("packs of 2", x.packs(2, 0, true), 1);
        Check.is("packs of 3", x.packs(3, 0, true), 2);
        Check.is("packs of 4", x.packs(4, 0, true), 5);
        Check.is("packs of 4, one sort", x.packs(4, 5, true), 1);
        Check.is("packs of 5, one sort", x.packs(5, 5, true), 0);
        Check.is("packs of 6, one sort", x.packs(6, 5, true), 5);
    }

    private static void fortyFirst() {
        TrouserWash x = new TrouserWash();
        for (int i = 1; i <= 40; i++) {
            Check.is("a GARMENT", x.garment(100), i);
        }
        Check.is("a 41st", x.garment(0), -1);
        Check.is("it did not come", x.count(9), 40);
        Check.is("nor into a sort", x.spread(1), 0);
        Check.argument("a 41st of SHADE 256", () -> x.garment(256));
        Check.argument("a 41st of SHADE -1", () -> x.garment(-1));
        TrouserWash y = with(1);
        Check.argument("SHADE 256", () -> y.garment(256));
        Check.argument("SHADE -1", () -> y.garment(-1));
        Check.is("none of them came", y.count(9), 1);
    }

    private static void noSpread() {
        Edge.bounds("k without GARMENTS", 1, 10, n -> new TrouserWash().spread(n));
        Edge.bounds("k", 1, 10, n -> with(1, 9).spread(n));
        Check.is("without, k 1", new TrouserWash().spread(1), 0);
        Check.is("without, k 10", new TrouserWash().spread(10), 0);
        Check.is("with two", with(1, 9).spread(1), 8);
    }

    private static void packNumbers() {
        Edge.bounds("n, left", 1, 20, n -> with(1, 9).packs(n, 0, true));
        Edge.bounds("n without GARMENTS", 1, 20, n -> new TrouserWash().packs(n, 0, false));
        TrouserWash x = with(1, 9, 255);
        Check.argument("d -1", () -> x.packs(1, -1, false));
        Check.argument("d -1, left", () -> x.packs(1, -1, true));
        Check.argument("d the least number", () -> x.packs(1, Integer.MIN_VALUE, false));
        Check.is("d 0", x.packs(1, 0, false), 3);
        Check.is("d 0, left", x.packs(2, 0, true), 3);
        Check.is("d the greatest number", x.packs(3, Integer.MAX_VALUE, false), 1);
        Check.is("d the greatest number, left", x.packs(2, Integer.MAX_VALUE, true), 1);
        Check.is("none: PACKS", new TrouserWash().packs(1, 0, false), 0);
        Check.is("none: LEFT", new TrouserWash().packs(1, 0, true), 0);
    }
}
