import java.util.Arrays;
import java.util.Random;

/** Promises 20 to 22: GARMENTS, SPREAD and PACKS. */
final class GarmentTest {
    public static void main(String[] args) {
        wrongNumbers();
        byHand();
        spreadAgainstAllCuts();
        Check.done("GarmentTest");
    }

    private static void wrongNumbers() {
        TrouserWash x = new TrouserWash();
        Check.argument("garment(-1)", () -> x.garment(-1));
        Check.argument("garment(256)", () -> x.garment(256));
        Check.argument("spread(0)", () -> x.spread(0));
        Check.argument("spread(11)", () -> x.spread(11));
        Check.argument("packs of 0", () -> x.packs(0, 0, true));
        Check.argument("packs of 21", () -> x.packs(21, 0, false));
        Check.argument("packs for -1", () -> x.packs(1, -1, false));
        Check.is("spread of none", x.spread(1), 0);
        Check.is("packs of none", x.packs(1, 0, false), 0);
        Check.is("left of none", x.packs(1, 0, true), 0);
        for (int i = 1; i <= 40; i++) {
            Check.is("garment", x.garment(i % 2 == 0 ? 0 : 255), i);
        }
        Check.is("a 41st", x.garment(3), -1);
        Check.argument("a 41st of no shade", () -> x.garment(256));
        Check.is("count", x.count(9), 40);
        Check.is("spread(1)", x.spread(1), 255);
        Check.is("spread(2)", x.spread(2), 0);
        Check.is("packs of 20", x.packs(20, 0, false), 2);
        Check.is("packs of 19", x.packs(19, 0, false), 2);
        Check.is("left", x.packs(19, 0, true), 2);
        Check.is("one sort", x.packs(19, 255, true), 2);
        Check.is("one sort of 7", x.packs(7, 255, false), 5);
        Check.is("two sorts of 7", x.packs(7, 254, false), 4);
        Check.is("the greatest d", x.packs(7, Integer.MAX_VALUE, false), 5);
    }

    private static void byHand() {
        TrouserWash x = new TrouserWash();
        for (int shade : new int[] {30, 12, 10, 15, 14, 33, 11}) {
            x.garment(shade);
        }
        Check.is("spread(1)", x.spread(1), 23);
        Check.is("spread(2)", x.spread(2), 5);
        Check.is("spread(3)", x.spread(3), 3);
        Check.is("spread(4)", x.spread(4), 2);
        Check.is("spread(6)", x.spread(6), 1);
        Check.is("spread(7)", x.spread(7), 0);
        Check.is("packs of 2 for 2: 10 11 12, 14 15, 30, 33", x.packs(2, 2, false), 2);
        Check.is("left", x.packs(2, 2, true), 3);
        Check.is("packs of 2 for 4: 10 11 12 14, 15, 30 33", x.packs(2, 4, false), 3);
        Check.is("left", x.packs(2, 4, true), 1);
        Check.is("packs of 1 for 0", x.packs(1, 0, false), 7);
        Check.is("packs of 3 for 1", x.packs(3, 1, false), 0);
        Check.is("left", x.packs(3, 1, true), 7);
    }

    private static void spreadAgainstAllCuts() {
        Random random = new Random(4);
        for (int run = 0; run < 300; run++) {
            TrouserWash x = new TrouserWash();
            int[] shades = new int[1 + random.nextInt(9)];
            for (int i = 0; i < shades.length; i++) {
                shades[i] = random.nextInt(256);
                x.garment(shades[i]);
            }
            Arrays.sort(shades);
            for (int k = 1; k <= 10; k++) {
                Check.is("spread of " + Arrays.toString(shades) + " for " + k, x.spread(k), plainly(shades, k));
            }
        }
    }

    /** Every way to cut the row into at most k pieces. */
    private static int plainly(int[] shades, int k) {
        int best = 255;
        for (int cuts = 0; cuts < 1 << shades.length - 1; cuts++) {
            if (Integer.bitCount(cuts) < k) {
                int widest = 0;
                int begin = 0;
                for (int i = 0; i < shades.length; i++) {
                    widest = Math.max(widest, shades[i] - shades[begin]);
                    if ((cuts >> i & 1) == 1) {
                        begin = i + 1;
                    }
                }
                best = Math.min(best, widest);
            }
        }
        return best;
    }
}
