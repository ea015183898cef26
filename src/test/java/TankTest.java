import java.util.Random;

/** Promises 16 to 19: TANKS, DRAW and POUR. */
final class TankTest {
    public static void main(String[] args) {
        wrongNumbers();
        roundedUp();
        exactOrder();
        bearsExactly();
        oneLitre();
        largeNumbers();
        nothingIsLost();
        Check.done("TankTest");
    }

    private static void wrongNumbers() {
        TrouserWash x = new TrouserWash();
        Check.argument("tank(0)", () -> x.tank(0));
        Check.argument("tank(1001)", () -> x.tank(1001));
        Check.index("pour into no tank", () -> x.pour(0, 0, 0));
        Check.index("has of no tank", () -> x.has(0, 9));
        Check.is("tank(1)", x.tank(1), 0);
        Check.is("tank(1000)", x.tank(1000), 1);
        for (int i = 2; i < 5; i++) {
            Check.is("tank", x.tank(5), i);
        }
        Check.full("a 6th tank", () -> x.tank(5));
        Check.argument("a 6th tank of 0", () -> x.tank(0));
        Check.is("count", x.count(3), 5);
        int[][] noDraw = {{0, 0}, {1001, 0}, {1, -1}, {1, 101}};
        for (int[] n : noDraw) {
            Check.argument("draw", () -> x.draw(n[0], n[1]));
        }
        int[][] noPour = {{0, 0}, {1001, 0}, {1, -1}, {1, 100001}};
        for (int[] n : noPour) {
            Check.argument("pour", () -> x.pour(1, n[0], n[1]));
        }
        Check.index("pour into tank 5", () -> x.pour(5, 0, 0));
        Check.index("pour into tank -1", () -> x.pour(-1, 1, 0));
        Check.element("has what 3", () -> x.has(0, 3));
        Check.element("has what -1", () -> x.has(0, -1));
        Check.index("has of tank 5", () -> x.has(5, 3));
        tank(x, 1, 1000, 0, 0);
        Check.is("draw of 1000", x.draw(1000, 0), 1000);
        Check.is("fresh", x.count(4), 1000);
    }

    private static void tank(TrouserWash x, int tank, int hold, int water, int dirt) {
        Check.is("hold of " + tank, x.has(tank, 0), hold);
        Check.is("water of " + tank, x.has(tank, 1), water);
        Check.is("dirt of " + tank, x.has(tank, 2), dirt);
    }

    private static void roundedUp() {
        TrouserWash x = new TrouserWash();
        x.tank(10);
        Check.is("pour, 2 of 12 above", x.pour(0, 12, 7), 2);
        tank(x, 0, 10, 10, 5);
        Check.is("ran off", x.count(5), 2);
        Check.is("dirt that ran off", x.count(8), 2);
        Check.is("draw 3 of 10", x.draw(3, 100), 0);
        tank(x, 0, 10, 7, 3);
        Check.is("dirt drawn", x.count(7), 2);
        Check.is("draw more than there is", x.draw(9, 100), 2);
        tank(x, 0, 10, 0, 0);
        Check.is("dirt drawn", x.count(7), 5);
        Check.is("fresh", x.count(4), 2);
        Check.is("from an empty one", x.draw(9, 100), 9);
        Check.is("into an empty one", x.pour(0, 10, 9), 0);
        Check.is("into a full one", x.pour(0, 3, 4), 3);
        tank(x, 0, 10, 10, 9);
        Check.is("dirt that ran off", x.count(8), 6);
        Check.is("dirt in tanks", x.count(6), 9);
    }

    /** 1 in 3 against 333 in 1000: alike if rounded to a hundred litres, not if compared exactly. */
    private static void exactOrder() {
        TrouserWash x = new TrouserWash();
        x.tank(1000);
        x.tank(3);
        x.tank(6);
        x.pour(0, 1000, 333);
        x.pour(1, 3, 1);
        x.pour(2, 6, 2);
        Check.is("draw 1", x.draw(1, 34), 0);
        Check.is("of two alike the first", x.has(1, 1), 2);
        Check.is("its dirt", x.has(1, 2), 0);
        Check.is("draw 7", x.draw(7, 34), 0);
        Check.is("the other one next", x.has(2, 1), 0);
        Check.is("then the less dirty", x.has(0, 1), 999);
        Check.is("the clean one not", x.has(1, 1), 2);
        Check.is("the clean one for one that bears nothing", x.draw(5, 0), 3);
        Check.is("is empty", x.has(1, 1), 0);
    }

    private static void bearsExactly() {
        TrouserWash x = new TrouserWash();
        x.tank(1000);
        x.pour(0, 300, 100);
        Check.is("33 is too little", x.draw(1, 33), 1);
        Check.is("34 is enough", x.draw(1, 34), 0);
        TrouserWash y = new TrouserWash();
        y.tank(1000);
        y.pour(0, 1000, 1);
        Check.is("bears nothing", y.draw(1, 0), 1);
        Check.is("bears 1", y.draw(1, 1), 0);
        tank(y, 0, 1000, 999, 0);
        Check.is("the dirt went along: clean now", y.draw(999, 0), 0);
    }

    private static void oneLitre() {
        TrouserWash x = new TrouserWash();
        x.tank(1);
        x.pour(0, 1, 1);
        Check.is("100 in a hundred are borne", x.draw(2, 100), 1);
        tank(x, 0, 1, 0, 0);
        Check.is("dirt drawn", x.count(7), 1);
    }

    private static void largeNumbers() {
        TrouserWash x = new TrouserWash();
        x.tank(1000);
        x.tank(1000);
        for (int i = 0; i < 200; i++) {
            x.pour(0, 1, 100000);
        }
        x.pour(1, 1000, 1000);
        Check.is("dirt of 200 pours", x.has(0, 2), 20000000);
        Check.is("the dirty one is not borne", x.draw(500, 100), 0);
        tank(x, 0, 1000, 200, 20000000);
        tank(x, 1, 1000, 500, 500);
        Check.is("pour", x.pour(0, 1000, 100000), 200);
        Check.is("dirt", x.has(0, 2), 20080000);
    }

    private static void nothingIsLost() {
        Random random = new Random(3);
        for (int run = 0; run < 50; run++) {
            TrouserWash x = new TrouserWash();
            int tanks = 1 + random.nextInt(5);
            for (int i = 0; i < tanks; i++) {
                x.tank(1 + random.nextInt(60));
            }
            long poured = 0;
            long dirt = 0;
            long drawn = 0;
            for (int i = 0; i < 200; i++) {
                int n = 1 + random.nextInt(40);
                if (random.nextBoolean()) {
                    int d = random.nextInt(50);
                    x.pour(random.nextInt(tanks), n, d);
                    poured += n;
                    dirt += d;
                } else {
                    x.draw(n, random.nextInt(101));
                    drawn += n;
                }
            }
            long water = 0;
            for (int i = 0; i < tanks; i++) {
                water += x.has(i, 1);
            }
            Check.is("water", water + x.count(5) + drawn, poured + x.count(4));
            Check.is("dirt", (long) x.count(6) + x.count(7) + x.count(8), dirt);
        }
    }
}
