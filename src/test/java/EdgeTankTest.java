/** Promises 16 to 19, and part 3 of the terms: a test for each sentence that names a boundary case. */
final class EdgeTankTest {
    public static void main(String[] args) {
        Edge.of("TANKS (at most 5, numbered from 0 on): HOLD at most so many litres (1 to 1000), with WATER and DIRT "
                + "(both 0 at first).", EdgeTankTest::tanks);
        Edge.of("A DRAW of n litres (1 to 1000) by a BATH that bears so much DIRT in a hundred litres (0 to 100)",
                EdgeTankTest::drawNumbers);
        Edge.of("from TANKS, in the order of their DIRT in a hundred litres (the dirtiest that it bears first, compared "
                + "exactly", EdgeTankTest::dirtiestFirst);
        Edge.of("of several the least number", EdgeTankTest::leastNumber);
        Edge.of("TANKS without WATER have none)", EdgeTankTest::withoutWater);
        Edge.of("as much as each has, and what lacks fresh", EdgeTankTest::whatLacks);
        Edge.of("from a TANK part of whose WATER is taken the DIRT goes with it by its part, rounded up.",
                EdgeTankTest::partTaken);
        Edge.of("A POUR of n litres with DIRT (0 to 100000 in all) into a TANK: as much as it holds",
                EdgeTankTest::asMuchAsItHolds);
        Edge.of("what is above runs off, with its part of that DIRT, rounded up.", EdgeTankTest::partAbove);
        Edge.of("FRESH, RAN OFF: all litres; DIRT: what came is in TANKS, was drawn by hand, or ran off",
                EdgeTankTest::all);
        Edge.of("A TANK: its number. IllegalArgumentException: HOLD is none; UnsupportedOperationException: there are 5.",
                EdgeTankTest::sixthTank);
        Edge.of("A DRAW: how much of it was fresh. IllegalArgumentException: a number is none.", EdgeTankTest::fresh);
        Edge.of("A POUR: how much ran off. IllegalArgumentException: litres are not 1 to 1000, or DIRT is none.",
                EdgeTankTest::ranOff);
        Edge.of("Of a TANK what 0 HOLD, 1 WATER, 2 DIRT. NoSuchElementException: another what.",
                EdgeTankTest::hasWhats);
        Check.done("EdgeTankTest");
    }

    private static TrouserWash withTanks(int... holds) {
        TrouserWash x = new TrouserWash();
        for (int hold : holds) {
            x.tank(hold);
        }
        return x;
    }

    private static void has(TrouserWash x, int tank, int water, int dirt) {
        Check.is("WATER of " + tank, x.has(tank, 1), water);
        Check.is("DIRT of " + tank, x.has(tank, 2), dirt);
    }

    private static void tanks() {
        Edge.bounds("HOLD", 1, 1000, n -> new TrouserWash().tank(n));
        TrouserWash x = new TrouserWash();
        for (int i = 0; i < 5; i++) {
            Check.is("a TANK", x.tank(i == 4 ? 1000 : i + 1), i);
            has(x, i, 0, 0);
        }
        Check.is("HOLD of the first", x.has(0, 0), 1);
        Check.is("HOLD of the last", x.has(4, 0), 1000);
        Check.full("no 6th", () -> x.tank(1));
        Check.is("one litre into the smallest", x.pour(0, 1, 0), 0);
        Check.is("a second one", x.pour(0, 1, 0), 1);
        Check.is("1000 into the largest", x.pour(4, 1000, 0), 0);
        Check.is("one more", x.pour(4, 1, 0), 1);
    }

    /** 200 litres with 80 of DIRT: 40 in a hundred. */
    private static void drawNumbers() {
        Edge.bounds("litres", 1, 1000, n -> withTanks(5).draw(n, 0));
        Edge.bounds("bears", 0, 100, n -> withTanks(5).draw(1, n));
        TrouserWash x = withTanks(200);
        x.pour(0, 200, 80);
        Check.is("bears 39", x.draw(1, 39), 1);
        Check.is("bears 40", x.draw(1, 40), 0);
        TrouserWash y = withTanks(200);
        y.pour(0, 200, 200);
        Check.is("100 in a hundred, bears 99", y.draw(1, 99), 1);
        Check.is("100 in a hundred, bears 100", y.draw(1, 100), 0);
        TrouserWash z = withTanks(200);
        z.pour(0, 200, 201);
        Check.is("more than 100 in a hundred", z.draw(1, 100), 1);
        TrouserWash clean = withTanks(1000);
        clean.pour(0, 1000, 1);
        Check.is("a tenth in a hundred, bears 0", clean.draw(1, 0), 1);
        Check.is("a tenth in a hundred, bears 1", clean.draw(1, 1), 0);
        Check.is("none is left, bears 0", clean.draw(1000, 0), 1);
    }

    /** 1 in 3 is a little more than 333 in 1000, and both are more than 33 and less than 34 in a hundred. */
    private static void dirtiestFirst() {
        TrouserWash x = withTanks(1000, 3, 10);
        x.pour(0, 1000, 333);
        x.pour(1, 3, 1);
        x.pour(2, 10, 4);
        Check.is("bears 34: not 40", x.draw(2, 34), 0);
        has(x, 0, 1000, 333);
        has(x, 1, 1, 0);
        has(x, 2, 10, 4);
        Check.is("bears 33: the clean one alone", x.draw(2, 33), 1);
        has(x, 1, 0, 0);
        Check.is("bears 40: the dirtiest, then the next", x.draw(11, 40), 0);
        has(x, 2, 0, 0);
        has(x, 0, 999, 332);
        TrouserWash y = withTanks(3, 1000);
        y.pour(0, 3, 1);
        y.pour(1, 1000, 334);
        Check.is("334 in 1000 is more than 1 in 3", y.draw(1, 100), 0);
        has(y, 0, 3, 1);
        has(y, 1, 999, 333);
    }

    private static void leastNumber() {
        TrouserWash x = withTanks(10, 10, 20, 10, 10);
        x.pour(1, 10, 5);
        x.pour(2, 20, 10);
        x.pour(4, 10, 5);
        Check.is("a first one", x.draw(10, 50), 0);
        has(x, 1, 0, 0);
        has(x, 2, 20, 10);
        Check.is("a second one", x.draw(20, 50), 0);
        has(x, 2, 0, 0);
        has(x, 4, 10, 5);
        Check.is("the last one", x.draw(11, 50), 1);
        has(x, 4, 0, 0);
        TrouserWash y = withTanks(10, 10);
        y.pour(1, 10, 0);
        y.pour(0, 10, 0);
        y.draw(1, 0);
        has(y, 0, 9, 0);
        has(y, 1, 10, 0);
    }

    private static void withoutWater() {
        TrouserWash x = withTanks(10, 10);
        Check.is("both without", x.draw(5, 100), 5);
        x.pour(1, 1, 0);
        Check.is("one litre in the second", x.draw(5, 0), 4);
        has(x, 0, 0, 0);
        has(x, 1, 0, 0);
        Check.is("without any again", x.draw(5, 0), 5);
        Check.is("without a TANK", new TrouserWash().draw(5, 100), 5);
    }

    private static void whatLacks() {
        TrouserWash x = withTanks(500, 400);
        x.pour(0, 500, 0);
        x.pour(1, 400, 0);
        Check.is("900 of 900", x.draw(900, 0), 0);
        x.pour(0, 500, 0);
        x.pour(1, 400, 0);
        Check.is("901 of 900", x.draw(901, 0), 1);
        x.pour(0, 500, 0);
        x.pour(1, 400, 0);
        Check.is("899 of 900", x.draw(899, 0), 0);
        has(x, 0, 0, 0);
        has(x, 1, 1, 0);
        Check.is("1000 of 1", x.draw(1000, 0), 999);
        Check.is("all fresh", x.count(4), 1000);
    }

    private static void partTaken() {
        int[][] cases = {{100, 10, 10, 1}, {100, 10, 9, 1}, {100, 10, 11, 2}, {1000, 1, 1, 1}, {1000, 0, 1, 0},
                {3, 2, 1, 1}, {3, 2, 2, 2}, {3, 1, 1, 1}, {7, 7, 7, 7}, {7, 5, 6, 5}};
        for (int[] c : cases) {
            TrouserWash x = withTanks(1000);
            x.pour(0, c[0], c[1]);
            Check.is("fresh", x.draw(c[2], 100), 0);
            has(x, 0, c[0] - c[2], c[1] - c[3]);
            Check.is("drawn of " + c[1] + " in " + c[0] + " with " + c[2], x.count(7), c[3]);
        }
        TrouserWash x = withTanks(1000, 1000);
        x.pour(0, 7, 5);
        x.pour(1, 7, 4);
        x.draw(8, 100);
        Check.is("all of one, a part of the other", x.count(7), 6);
        has(x, 1, 6, 3);
    }

    private static void asMuchAsItHolds() {
        Edge.bounds("DIRT", 0, 100000, n -> withTanks(1000).pour(0, 1, n));
        TrouserWash x = withTanks(10);
        Check.is("4 into 10", x.pour(0, 4, 3), 0);
        Check.is("6 more", x.pour(0, 6, 2), 0);
        has(x, 0, 10, 5);
        Check.is("1 more", x.pour(0, 1, 9), 1);
        has(x, 0, 10, 5);
        TrouserWash y = withTanks(10);
        y.pour(0, 4, 0);
        Check.is("7 into 6", y.pour(0, 7, 0), 1);
        has(y, 0, 10, 0);
        TrouserWash z = withTanks(1000);
        Check.is("all DIRT there can be in one", z.pour(0, 1000, 100000), 0);
        has(z, 0, 1000, 100000);
        Check.is("the same again", z.pour(0, 1000, 100000), 1000);
        has(z, 0, 1000, 100000);
        Check.is("it ran off", z.count(8), 100000);
    }

    private static void partAbove() {
        int[][] cases = {{7, 14, 1, 2}, {7, 13, 1, 2}, {7, 15, 1, 3}, {7, 1, 1, 1}, {7, 0, 1, 0}, {7, 5, 7, 5},
                {1000, 100000, 1, 100}, {1000, 100000, 999, 99900}, {1000, 1, 999, 1}};
        for (int[] c : cases) {
            TrouserWash x = withTanks(1000);
            x.pour(0, 1000, 0);
            x.draw(1000, 0);
            int room = c[0] - c[2];
            if (room < 1000) {
                x.pour(0, 1000 - room, 0);
            }
            Check.is(c[2] + " of " + c[0] + " above", x.pour(0, c[0], c[1]), c[2]);
            Check.is("their part of " + c[1], x.count(8), c[3]);
            has(x, 0, 1000, c[1] - c[3]);
        }
        TrouserWash x = withTanks(10);
        x.pour(0, 10, 10);
        x.pour(0, 5, 3);
        has(x, 0, 10, 10);
        Check.is("the part of what came alone", x.count(8), 3);
    }

    private static void all() {
        TrouserWash x = withTanks(10, 10);
        int[][] due = new int[][] {{0, 0, 0, 0, 0}, {0, 2, 6, 0, 2}, {1, 2, 0, 6, 2}, {1, 5, 4, 6, 4}};
        counts(x, due[0]);
        x.pour(0, 12, 8);
        counts(x, due[1]);
        x.draw(11, 100);
        counts(x, due[2]);
        x.pour(1, 10, 4);
        x.pour(1, 3, 2);
        counts(x, due[3]);
    }

    private static void counts(TrouserWash x, int... due) {
        for (int i = 0; i < due.length; i++) {
            Check.is("count " + (4 + i), x.count(4 + i), due[i]);
        }
    }

    private static void sixthTank() {
        TrouserWash x = new TrouserWash();
        Check.argument("HOLD 0", () -> x.tank(0));
        for (int i = 0; i < 5; i++) {
            Check.is("a TANK", x.tank(7), i);
        }
        Check.full("a 6th", () -> x.tank(7));
        Check.argument("a 6th of HOLD 0", () -> x.tank(0));
        Check.argument("a 6th of HOLD 1001", () -> x.tank(1001));
        Check.is("how many", x.count(3), 5);
        Check.is("the last", x.has(4, 0), 7);
        Check.index("there is none behind it", () -> x.has(5, 0));
    }

    private static void fresh() {
        TrouserWash x = withTanks(10);
        x.pour(0, 10, 0);
        Check.argument("litres 0", () -> x.draw(0, 0));
        Check.argument("litres 1001", () -> x.draw(1001, 0));
        Check.argument("bears -1", () -> x.draw(1, -1));
        Check.argument("bears 101", () -> x.draw(1, 101));
        has(x, 0, 10, 0);
        Check.is("no water was used", x.count(4), 0);
        Check.is("none fresh", x.draw(1, 0), 0);
        Check.is("nine there, ten drawn", x.draw(10, 0), 1);
        Check.is("all fresh", x.draw(1000, 100), 1000);
    }

    private static void ranOff() {
        Edge.bounds("litres", 1, 1000, n -> withTanks(5).pour(0, n, 0));
        TrouserWash x = withTanks(10);
        Check.argument("litres 0", () -> x.pour(0, 0, 0));
        Check.argument("litres 1001", () -> x.pour(0, 1001, 0));
        Check.argument("DIRT -1", () -> x.pour(0, 1, -1));
        Check.argument("DIRT 100001", () -> x.pour(0, 1, 100001));
        has(x, 0, 0, 0);
        Check.is("none", x.pour(0, 10, 0), 0);
        Check.is("all", x.pour(0, 1000, 0), 1000);
        Check.is("in all", x.count(5), 1000);
    }

    private static void hasWhats() {
        TrouserWash x = withTanks(9, 30);
        x.pour(1, 20, 4);
        Check.is("HOLD", x.has(1, 0), 30);
        Check.is("WATER", x.has(1, 1), 20);
        Check.is("DIRT", x.has(1, 2), 4);
        Edge.whats("what", 2, n -> x.has(0, n));
        Edge.numbered("TANK", 2, n -> x.has(n, 0));
    }
}
