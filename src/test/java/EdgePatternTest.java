/** Promises 37 to 42, and part 7 of the terms: a test for each sentence that names a boundary case. */
final class EdgePatternTest {
    private static final int WIDE = 12;
    private static final int HIGH = 8;

    public static void main(String[] args) {
        Edge.of("a PATTERN of w times h (1 to 6, 1 to 4) of heats 0 to 9 (0 at first).", EdgePatternTest::sizes);
        Edge.of("PANELS 0 and 1: 12 wide, 8 high, of burns (0 at first).", EdgePatternTest::panels);
        Edge.of("TO BURN a PANEL: the PATTERN laid again and again from an offset (x 0 to 5, y 0 to 3): at (i, j) the "
                + "heat at (i less x, j less y), modulo w and h", EdgePatternTest::laidAgain);
        Edge.of("burns are that much more (99 at most).", EdgePatternTest::mostBurns);
        Edge.of("SEAM: of both PANELS the last column of 0 beside the first one of 1: how many of the 8 places are "
                + "unlike.", EdgePatternTest::seamPlaces);
        Edge.of("for PANEL 1 turned around its rows by s (0 to 7: its row j is what j and s, modulo 8, was)",
                EdgePatternTest::turned);
        Edge.of("the s with the least SEAM, of several the least.", EdgePatternTest::leastShift);
        Edge.of("A PATTERN of such a size, heats 0, in place of the one before. IllegalArgumentException: a size is "
                + "none.", EdgePatternTest::inPlace);
        Edge.of("A heat of the PATTERN: whether it was another one. IllegalArgumentException: the place, or the heat, "
                + "is none.", EdgePatternTest::heats);
        Edge.of("A PANEL is BURNED (ahead of any pattern(): 1 times 1 of heat 0). IllegalArgumentException: the offset "
                + "is none.", EdgePatternTest::aheadOfAny);
        Edge.of("The burns of a PANEL at a place. IllegalArgumentException: it is none.", EdgePatternTest::places);
        Edge.of("SEAM with PANEL 1 turned by s. IllegalArgumentException: s is not 0 to 7.", EdgePatternTest::seamTurns);
        Edge.of("`int shift()`: SHIFT.", EdgePatternTest::shifts);
        Check.done("EdgePatternTest");
    }

    /** A PATTERN whose heats are told row by row. */
    private static void pattern(TrouserWash x, int w, int... heats) {
        x.pattern(w, heats.length / w);
        for (int i = 0; i < heats.length; i++) {
            x.heat(i % w, i / w, heats[i]);
        }
    }

    /** Burns such a column into all columns of a PANEL, a row as many times as it must be. */
    private static void burnRows(TrouserWash x, int panel, int offset, int... rows) {
        pattern(x, 1, rows);
        x.burn(panel, 0, offset);
    }

    private static void sizes() {
        Edge.bounds("w", 1, 6, n -> Edge.did(() -> new TrouserWash().pattern(n, 1)));
        Edge.bounds("h", 1, 4, n -> Edge.did(() -> new TrouserWash().pattern(1, n)));
        TrouserWash x = new TrouserWash();
        x.pattern(6, 4);
        Edge.bounds("heat", 0, 9, n -> x.heat(5, 3, n));
        TrouserWash y = new TrouserWash();
        y.pattern(6, 4);
        for (int i = 0; i < 24; i++) {
            Check.is("heat 0 at first, place " + i, y.heat(i % 6, i / 6, 0), false);
        }
    }

    private static void panels() {
        TrouserWash x = new TrouserWash();
        for (int panel = 0; panel < 2; panel++) {
            for (int j = 0; j < HIGH; j++) {
                for (int i = 0; i < WIDE; i++) {
                    Check.is("at first", x.burned(panel, i, j), 0);
                }
            }
        }
        pattern(x, 1, 7);
        x.burn(1, 0, 0);
        int[][] corners = {{0, 0}, {11, 0}, {0, 7}, {11, 7}};
        for (int[] c : corners) {
            Check.is("a corner", x.burned(1, c[0], c[1]), 7);
            Check.is("the same of the other PANEL", x.burned(0, c[0], c[1]), 0);
        }
        Check.argument("beside the last column", () -> x.burned(1, 12, 0));
        Check.argument("below the last row", () -> x.burned(1, 0, 8));
        Check.index("PANEL 2", () -> x.burned(2, 0, 0));
        Check.index("PANEL -1", () -> x.burned(-1, 0, 0));
    }

    /** Every size and every offset; the heats of a row and of a column are unlike, and so are those of two rows. */
    private static void laidAgain() {
        Edge.bounds("x", 0, 5, n -> Edge.did(() -> new TrouserWash().burn(0, n, 0)));
        Edge.bounds("y", 0, 3, n -> Edge.did(() -> new TrouserWash().burn(0, 0, n)));
        for (int w = 1; w <= 6; w++) {
            for (int h = 1; h <= 4; h++) {
                int[] heats = new int[w * h];
                for (int i = 0; i < heats.length; i++) {
                    heats[i] = (i % w + 3 * (i / w)) % 10;
                }
                laidFrom(w, h, heats, 0, 0);
                laidFrom(w, h, heats, 5, 3);
                laidFrom(w, h, heats, w - 1, h - 1);
                laidFrom(w, h, heats, 1, 0);
                laidFrom(w, h, heats, 0, 1);
            }
        }
        TrouserWash x = new TrouserWash();
        pattern(x, 6, 0, 1, 2, 3, 4, 5, 1, 2, 3, 4, 5, 6, 2, 3, 4, 5, 6, 7, 3, 4, 5, 6, 7, 8);
        x.burn(0, 5, 3);
        int[][] due = {{0, 0, 2}, {4, 0, 6}, {5, 0, 1}, {5, 3, 0}, {4, 3, 5}, {11, 7, 0}, {10, 6, 8}, {0, 2, 4}};
        for (int[] d : due) {
            Check.is("6 times 4 from 5, 3 at " + d[0] + ", " + d[1], x.burned(0, d[0], d[1]), d[2]);
        }
    }

    private static void laidFrom(int w, int h, int[] heats, int dx, int dy) {
        TrouserWash x = new TrouserWash();
        pattern(x, w, heats);
        x.burn(0, dx, dy);
        for (int j = 0; j < HIGH; j++) {
            for (int i = 0; i < WIDE; i++) {
                int due = heats[(j - dy + 12) % h * w + (i - dx + 60) % w];
                Check.is(w + " times " + h + " from " + dx + ", " + dy + " at " + i + ", " + j, x.burned(0, i, j), due);
            }
        }
    }

    private static void mostBurns() {
        TrouserWash x = new TrouserWash();
        pattern(x, 1, 9);
        for (int i = 1; i <= 10; i++) {
            x.burn(0, 0, 0);
            Check.is("burned " + i + " times", x.burned(0, 0, 0), 9 * i);
        }
        pattern(x, 1, 8);
        x.burn(0, 0, 0);
        Check.is("98", x.burned(0, 11, 7), 98);
        pattern(x, 1, 0);
        x.burn(0, 0, 0);
        Check.is("98 and 0", x.burned(0, 11, 7), 98);
        pattern(x, 1, 1);
        x.burn(0, 0, 0);
        Check.is("98 and 1", x.burned(0, 11, 7), 99);
        x.burn(0, 0, 0);
        Check.is("99 and 1", x.burned(0, 11, 7), 99);
        pattern(x, 1, 9);
        x.burn(0, 0, 0);
        Check.is("99 and 9", x.burned(0, 11, 7), 99);
        Check.is("the other PANEL", x.burned(1, 11, 7), 0);
        TrouserWash y = new TrouserWash();
        pattern(y, 2, 9, 4);
        for (int i = 0; i < 12; i++) {
            y.burn(1, 0, 0);
        }
        Check.is("12 times 9", y.burned(1, 0, 0), 99);
        Check.is("12 times 4", y.burned(1, 1, 0), 48);
    }

    /** Columns 10 and 11 of PANEL 0, and 0 and 1 of PANEL 1, are told apart by a PATTERN 6 wide. */
    private static void seamPlaces() {
        TrouserWash x = new TrouserWash();
        Check.is("both empty", x.seam(0), 0);
        pattern(x, 6, 5, 5, 5, 5, 5, 0);
        x.burn(0, 0, 0);
        Check.is("all but the last column of 0", x.seam(0), 0);
        pattern(x, 6, 0, 5, 5, 5, 5, 5);
        x.burn(1, 0, 0);
        Check.is("all but the first column of 1", x.seam(0), 0);
        pattern(x, 6, 0, 0, 0, 0, 0, 1);
        x.burn(0, 0, 0);
        Check.is("the last column of 0", x.seam(0), 8);
        pattern(x, 6, 1, 0, 0, 0, 0, 0);
        x.burn(1, 0, 0);
        Check.is("the first column of 1 likewise", x.seam(0), 0);
        burnRows(x, 1, 0, 1, 0, 0, 0);
        Check.is("two rows more of 1", x.seam(0), 2);
        burnRows(x, 0, 0, 1, 0, 0);
        Check.is("rows 0, 3 and 6 more of 0: unlike at 3, 4, 6", x.seam(0), 3);
    }

    /** PANEL 1 has rows 0, 3 and 6, PANEL 0 rows 1, 4 and 7. */
    private static TrouserWash threeRows() {
        TrouserWash x = new TrouserWash();
        burnRows(x, 1, 0, 1, 0, 0);
        burnRows(x, 0, 1, 1, 0, 0);
        return x;
    }

    /** Turned by s PANEL 1 has rows 0, 3 and 6 less s, modulo 8. */
    private static void turned() {
        TrouserWash x = threeRows();
        int[] due = {6, 4, 2, 6, 2, 4, 6, 0};
        for (int s = 0; s < 8; s++) {
            int unlike = 0;
            for (int j = 0; j < HIGH; j++) {
                unlike += x.burned(0, 11, j) == x.burned(1, 0, (j + s) % HIGH) ? 0 : 1;
            }
            Check.is("by " + s + ", by the burns", x.seam(s), unlike);
            Check.is("by " + s, x.seam(s), due[s]);
        }
        Check.is("the PANEL itself is not turned", x.burned(1, 0, 0), 1);
    }

    /** Rows that come again every 4 meet twice. */
    private static void leastShift() {
        TrouserWash x = new TrouserWash();
        Check.is("all alike", x.shift(), 0);
        for (int y = 0; y < 4; y++) {
            TrouserWash one = new TrouserWash();
            burnRows(one, 0, 0, 1, 2, 3, 4);
            burnRows(one, 1, y, 1, 2, 3, 4);
            Check.is("rows of 4, from " + y, one.shift(), y);
            Check.is("its SEAM", one.seam(y), 0);
            Check.is("the SEAM of the other one", one.seam(y + 4), 0);
        }
        Check.is("the last one alone", threeRows().shift(), 7);
        burnRows(x, 0, 0, 1);
        Check.is("all unlike", x.shift(), 0);
        Check.is("their SEAM", x.seam(0), 8);
    }

    private static void inPlace() {
        TrouserWash x = new TrouserWash();
        x.pattern(6, 4);
        x.heat(5, 3, 9);
        x.heat(0, 0, 4);
        int[][] none = {{0, 1}, {7, 1}, {1, 0}, {1, 5}, {-1, -1}};
        for (int[] n : none) {
            Check.argument("a size", () -> Edge.did(() -> x.pattern(n[0], n[1])));
        }
        Check.is("the one before stays", x.heat(5, 3, 9), false);
        x.pattern(6, 4);
        Check.is("heats are 0", x.heat(5, 3, 0), false);
        Check.is("heats are 0", x.heat(0, 0, 0), false);
        x.heat(5, 3, 9);
        x.pattern(1, 1);
        Check.argument("no such place", () -> x.heat(5, 3, 9));
        x.burn(0, 0, 0);
        Check.is("burned by heat 0", x.burned(0, 5, 3), 0);
        x.pattern(6, 4);
        x.burn(0, 0, 0);
        Check.is("nor is the old heat there again", x.burned(0, 5, 3), 0);
    }

    private static void heats() {
        int[][] sizes = {{1, 1}, {6, 4}, {5, 3}, {1, 4}, {6, 1}};
        for (int[] size : sizes) {
            TrouserWash x = new TrouserWash();
            x.pattern(size[0], size[1]);
            Edge.bounds("x of " + size[0], 0, size[0] - 1, n -> x.heat(n, 0, 1));
            Edge.bounds("y of " + size[1], 0, size[1] - 1, n -> x.heat(0, n, 1));
        }
        TrouserWash x = new TrouserWash();
        x.pattern(6, 4);
        Edge.bounds("heat", 0, 9, n -> x.heat(2, 2, n));
        Check.is("9 was told last", x.heat(2, 2, 9), false);
        Check.is("another one", x.heat(2, 2, 8), true);
        Check.is("the same", x.heat(2, 2, 8), false);
        Check.is("another one", x.heat(2, 2, 0), true);
        Check.is("0 as at first", x.heat(3, 2, 0), false);
    }

    private static void aheadOfAny() {
        TrouserWash x = new TrouserWash();
        x.burn(0, 5, 3);
        x.burn(1, 0, 0);
        Check.is("heat 0", x.burned(0, 11, 7), 0);
        Check.is("heat 0", x.burned(1, 0, 0), 0);
        Check.argument("1 wide", () -> x.heat(1, 0, 0));
        Check.argument("1 high", () -> x.heat(0, 1, 0));
        Check.is("its one place", x.heat(0, 0, 0), false);
        pattern(x, 1, 3);
        Edge.bounds("x", 0, 5, n -> Edge.did(() -> x.burn(0, n, 0)));
        Edge.bounds("y", 0, 3, n -> Edge.did(() -> x.burn(0, 0, n)));
        Edge.numbered("PANEL", 2, n -> Edge.did(() -> x.burn(n, 0, 0)));
        Check.is("those that were taken, on 0", x.burned(0, 0, 0), 15);
        Check.is("those that were taken, on 1", x.burned(1, 0, 0), 3);
    }

    private static void places() {
        TrouserWash x = new TrouserWash();
        pattern(x, 4, 1, 2, 3, 4);
        x.burn(1, 0, 0);
        Edge.bounds("x", 0, 11, n -> x.burned(1, n, 0));
        Edge.bounds("y", 0, 7, n -> x.burned(1, 0, n));
        Edge.numbered("PANEL", 2, n -> x.burned(n, 0, 0));
        Check.is("the first column", x.burned(1, 0, 7), 1);
        Check.is("the last column", x.burned(1, 11, 0), 4);
        Check.is("of the other PANEL", x.burned(0, 11, 0), 0);
    }

    private static void seamTurns() {
        TrouserWash x = threeRows();
        Edge.bounds("s", 0, 7, x::seam);
        Check.is("not turned", x.seam(0), 6);
        Check.is("turned by 7", x.seam(7), 0);
        Check.is("asking turns nothing", x.seam(0), 6);
    }

    private static void shifts() {
        TrouserWash x = new TrouserWash();
        Check.is("of a new object", x.shift(), 0);
        burnRows(x, 1, 0, 1, 0, 0);
        Check.is("rows of 1 alone, as many whatever the turn", x.shift(), 0);
        burnRows(x, 0, 1, 1, 0, 0);
        Check.is("turned by 7", x.shift(), 7);
        burnRows(x, 0, 0, 1, 0, 0);
        Check.is("rows of both", x.shift(), best(x));
    }

    private static int best(TrouserWash x) {
        int best = 0;
        for (int s = 1; s < HIGH; s++) {
            best = x.seam(s) < x.seam(best) ? s : best;
        }
        return best;
    }
}
