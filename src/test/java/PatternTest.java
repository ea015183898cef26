import java.util.Random;

/** Promises 37 to 42: PATTERNS, PANELS, SEAM and SHIFT. */
final class PatternTest {
    public static void main(String[] args) {
        wrongNumbers();
        heats();
        burning();
        againstAPlainPanel();
        Check.done("PatternTest");
    }

    private static Object pattern(TrouserWash x, int w, int h) {
        x.pattern(w, h);
        return "nothing";
    }

    private static Object burn(TrouserWash x, int panel, int i, int j) {
        x.burn(panel, i, j);
        return "nothing";
    }

    private static void wrongNumbers() {
        TrouserWash x = new TrouserWash();
        int[][] sizes = {{0, 1}, {7, 1}, {1, 0}, {1, 5}};
        for (int[] n : sizes) {
            Check.argument("pattern", () -> pattern(x, n[0], n[1]));
        }
        Check.index("burn panel 2", () -> burn(x, 2, 9, 9));
        Check.index("burn panel -1", () -> burn(x, -1, 0, 0));
        int[][] offsets = {{-1, 0}, {6, 0}, {0, -1}, {0, 4}};
        for (int[] n : offsets) {
            Check.argument("burn", () -> burn(x, 0, n[0], n[1]));
        }
        Check.index("burned panel 2", () -> x.burned(2, 12, 0));
        Check.index("burned panel -1", () -> x.burned(-1, 0, 0));
        int[][] places = {{-1, 0}, {12, 0}, {0, -1}, {0, 8}};
        for (int[] n : places) {
            Check.argument("burned", () -> x.burned(1, n[0], n[1]));
        }
        Check.argument("seam(-1)", () -> x.seam(-1));
        Check.argument("seam(8)", () -> x.seam(8));
    }

    private static void heats() {
        TrouserWash x = new TrouserWash();
        x.burn(0, 5, 3);
        Check.is("burned by no pattern", x.burned(0, 11, 7), 0);
        Check.argument("place 1, 0 of 1 times 1", () -> x.heat(1, 0, 0));
        Check.argument("place 0, 1 of 1 times 1", () -> x.heat(0, 1, 0));
        Check.is("heat 0 as it is", x.heat(0, 0, 0), false);
        x.pattern(6, 4);
        Check.argument("x 6", () -> x.heat(6, 0, 0));
        Check.argument("x -1", () -> x.heat(-1, 0, 0));
        Check.argument("y 4", () -> x.heat(0, 4, 0));
        Check.argument("y -1", () -> x.heat(0, -1, 0));
        Check.argument("heat 10", () -> x.heat(0, 0, 10));
        Check.argument("heat -1", () -> x.heat(0, 0, -1));
        Check.is("heat", x.heat(5, 3, 9), true);
        Check.is("the same", x.heat(5, 3, 9), false);
        x.pattern(6, 4);
        Check.is("anew", x.heat(5, 3, 0), false);
    }

    private static void burning() {
        TrouserWash x = new TrouserWash();
        x.pattern(1, 1);
        x.heat(0, 0, 9);
        for (int i = 1; i <= 12; i++) {
            x.burn(0, i % 6, i % 4);
            Check.is("99 at most", x.burned(0, 3, 3), Math.min(99, 9 * i));
        }
        Check.is("not the other panel", x.burned(1, 3, 3), 0);
        Check.is("seam", x.seam(0), 8);
        x.pattern(2, 3);
        x.heat(1, 2, 4);
        x.burn(1, 1, 1);
        Check.is("at (2, 0): heat (1, 2)", x.burned(1, 2, 0), 4);
        Check.is("at (0, 0): heat (1, 2)", x.burned(1, 0, 0), 4);
        Check.is("at (1, 0): heat (0, 2)", x.burned(1, 1, 0), 0);
        Check.is("at (0, 3): heat (1, 2)", x.burned(1, 0, 3), 4);
    }

    private static void againstAPlainPanel() {
        Random random = new Random(5);
        for (int run = 0; run < 200; run++) {
            TrouserWash x = new TrouserWash();
            int[][][] panels = new int[2][12][8];
            for (int k = 0; k < 3; k++) {
                int w = 1 + random.nextInt(6);
                int h = 1 + random.nextInt(4);
                int[][] heat = new int[w][h];
                x.pattern(w, h);
                for (int n = 0; n < 8; n++) {
                    int i = random.nextInt(w);
                    int j = random.nextInt(h);
                    int now = random.nextInt(3) * 4;
                    Check.is("heat", x.heat(i, j, now), now != heat[i][j]);
                    heat[i][j] = now;
                }
                int dx = random.nextInt(6);
                int dy = random.nextInt(4);
                int panel = random.nextInt(2);
                x.burn(panel, dx, dy);
                for (int i = 0; i < 12; i++) {
                    for (int j = 0; j < 8; j++) {
                        panels[panel][i][j] += heat[(i - dx + 12 * w) % w][(j - dy + 12 * h) % h];
                    }
                }
            }
            compare(x, panels);
        }
    }

    private static void compare(TrouserWash x, int[][][] panels) {
        for (int i = 0; i < 12; i++) {
            for (int j = 0; j < 8; j++) {
                Check.is("burned", x.burned(0, i, j), panels[0][i][j]);
                Check.is("burned", x.burned(1, i, j), panels[1][i][j]);
            }
        }
        int best = 0;
        int least = 9;
        for (int s = 0; s < 8; s++) {
            int unlike = 0;
            for (int j = 0; j < 8; j++) {
                unlike += panels[0][11][j] != panels[1][0][(j + s) % 8] ? 1 : 0;
            }
            Check.is("seam(" + s + ")", x.seam(s), unlike);
            if (unlike < least) {
                least = unlike;
                best = s;
            }
        }
        Check.is("shift", x.shift(), best);
    }
}
