import java.util.Random;

/** Promises 12 to 15: CARRY, BATCHES and their ORDER, against all orders tried plainly. */
final class OrderTest {
    public static void main(String[] args) {
        wrongNumbers();
        batches();
        barredOneWay();
        againstAllOrders();
        Check.done("OrderTest");
    }

    private static Object carry(TrouserWash x, int from, int to, int litres) {
        x.carry(from, to, litres);
        return "nothing";
    }

    private static void wrongNumbers() {
        TrouserWash x = new TrouserWash();
        Check.index("from 6", () -> carry(x, 6, 0, 101));
        Check.index("to 6", () -> carry(x, 0, 6, 1));
        Check.index("from -1", () -> carry(x, -1, 0, 1));
        Check.index("to -1", () -> carry(x, 0, -1, 1));
        Check.index("both -1", () -> carry(x, -1, -1, 1));
        Check.argument("-2", () -> carry(x, 0, 1, -2));
        Check.argument("101", () -> carry(x, 0, 1, 101));
        Check.argument("one to itself", () -> carry(x, 3, 3, 0));
        Check.is("100", carry(x, 0, 1, 100), "nothing");
        Check.index("batch of kind 6", () -> x.batch(6));
        Check.index("batch of kind -1", () -> x.batch(-1));
    }

    private static void batches() {
        TrouserWash x = new TrouserWash();
        Check.is("order of none", x.order(), 0);
        Check.is("clear of none", x.clear(), 0);
        for (int i = 1; i <= 9; i++) {
            Check.is("batch", x.batch(i % 6), i);
        }
        Check.is("a 10th", x.batch(0), -1);
        Check.index("a 10th of no kind", () -> x.batch(6));
        Check.is("count", x.count(2), 9);
        Check.is("order without carry", x.order(), 0);
        Check.is("clear", x.clear(), 9);
        Check.is("count", x.count(2), 0);
        Check.is("order of none", x.order(), 0);
    }

    private static void barredOneWay() {
        TrouserWash x = new TrouserWash();
        x.batch(0);
        x.batch(1);
        x.carry(0, 1, -1);
        x.carry(1, 0, 70);
        Check.is("1 ahead of 0", x.order(), 70);
        x.carry(1, 0, -1);
        Check.is("neither", x.order(), -1);
        x.carry(0, 1, 3);
        Check.is("no more barred", x.order(), 3);
    }

    private static void againstAllOrders() {
        Random random = new Random(2);
        for (int i = 0; i < 400; i++) {
            TrouserWash x = new TrouserWash();
            int[][] carry = new int[6][6];
            for (int a = 0; a < 6; a++) {
                for (int b = 0; b < 6; b++) {
                    if (a != b) {
                        carry[a][b] = random.nextInt(3) == 0 ? -1 : random.nextInt(101);
                        x.carry(a, b, carry[a][b]);
                    }
                }
            }
            int[] kinds = new int[random.nextInt(8)];
            for (int k = 0; k < kinds.length; k++) {
                kinds[k] = random.nextInt(6);
                x.batch(kinds[k]);
            }
            int due = kinds.length == 0 ? 0 : plainly(carry, kinds, 0, -1);
            Check.is("order of run " + i, x.order(), due);
        }
    }

    private static int plainly(int[][] carry, int[] kinds, int used, int last) {
        if (used == (1 << kinds.length) - 1) {
            return 0;
        }
        int best = -1;
        for (int k = 0; k < kinds.length; k++) {
            int litres = last == -1 ? 0 : carry[last][kinds[k]];
            if ((used >> k & 1) == 0 && litres != -1) {
                int rest = plainly(carry, kinds, used | 1 << k, kinds[k]);
                if (rest != -1 && (best == -1 || rest + litres < best)) {
                    best = rest + litres;
                }
            }
        }
        return best;
    }
}
