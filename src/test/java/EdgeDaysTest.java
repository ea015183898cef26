/** Promises 25 to 30, and MACHINES, LOTS and DAYS in part 5: a test for each sentence that names a boundary case. */
final class EdgeDaysTest {
    public static void main(String[] args) {
        Edge.of("TODAY is 0 at first, 400 at last.", EdgeDaysTest::firstAndLastDay);
        Edge.of("MACHINES (at most 4, numbered from 0 on) each HOLD so many pieces (1 to 60).", EdgeDaysTest::machines);
        Edge.of("LOTS (at most 40, numbered from 0 on)", EdgeDaysTest::fortyLots);
        Edge.of("so many pieces (1 to 60, numbered from 0 on)", EdgeDaysTest::pieces);
        Edge.of("a KIND (for CARRY), a WISH, a DUE day (0 to 400)", EdgeDaysTest::lotNumbers);
        Edge.of("with the RECIPE as it is when the LOT is told (later ones change nothing): WAITING at first.",
                EdgeDaysTest::recipeAsItIs);
        Edge.of("One WAITING may be LOADED on a MACHINE that HOLDS so many: behind all that are LOADED there.",
                EdgeDaysTest::behindAll);
        Edge.of("A DAY: TODAY is one more; then each MACHINE, by numbers, has 480 minutes: as long as it can, it does "
                + "the next BATH of the LOT that is in it", EdgeDaysTest::wholeDay);
        Edge.of("without a LOT in it, it takes the first LOADED one that is not BARRED by the KIND that was in it last "
                + "(any, if there was none)", EdgeDaysTest::firstNotBarred);
        Edge.of("if the litres of that CARRY, as minutes, are left: these go by, so many litres of fresh water are "
                + "used, and run off with that many of DIRT.", EdgeDaysTest::carryMinutes);
        Edge.of("A BATH is done only if all its minutes are left that day, else the MACHINE is done for that day (the "
                + "LOT stays in it).", EdgeDaysTest::allItsMinutes);
        Edge.of("A LOT whose RECIPE has no BATH left is WASHED at once: the next one may be taken that same day.",
                EdgeDaysTest::washedAtOnce);
        Edge.of("A BATH of a LOT of p pieces: a DRAW of p times litres, bearing as the house tells",
                EdgeDaysTest::drawOfABath);
        Edge.of("its water then has the DIRT that was drawn and p times n (wash), p times 2 n (stone), p times 3 n and "
                + "5 (bleach: 3 n and 5 for each piece), p (rinse)", EdgeDaysTest::dirtOfABath);
        Edge.of("a POUR of the same litres into its TANK (what is above what the TANK holds runs off with its part of "
                + "the DIRT), or it runs off with all its DIRT.", EdgeDaysTest::pourOfABath);
        Edge.of("(A TANK is drawn from and poured to in this order.)", EdgeDaysTest::drawnThenPoured);
        Edge.of("(what a BATH draws goes along with its water).", EdgeDaysTest::notDrawnByHand);
        Edge.of("LOOK of a LOT: as far as its BATHS are done; it begins as its CLOTH", EdgeDaysTest::lookOfALot);
        Edge.of("A MACHINE: its number. IllegalArgumentException: it HOLDS none such; UnsupportedOperationException: "
                + "there are 4.", EdgeDaysTest::fifthMachine);
        Edge.of("A LOT: its number. IndexOutOfBoundsException: of a CLOTH, KIND; IllegalArgumentException: pieces, WISH "
                + "or DUE are none; UnsupportedOperationException: there are 40.", EdgeDaysTest::fortyFirstLot);
        Edge.of("A LOT is LOADED on a MACHINE: true; false, and nothing happens, if it is not WAITING, or has more "
                + "pieces than that HOLDS.", EdgeDaysTest::notLoaded);
        Edge.of("So many DAYS, as far as TODAY may go: TODAY. IllegalArgumentException: not 0 to 60.",
                EdgeDaysTest::soManyDays);
        Edge.of("Of a LOT what 0: 0 WAITING, 1 LOADED, 2 in a MACHINE, 3 WASHED; 1 the MACHINE (NONE), 2 BATHS done, 3 "
                + "BATHS of its RECIPE, 4 the day it was WASHED (NONE)", EdgeDaysTest::ledOnTheWay);
        Edge.of("5 and 6 the least and the greatest SHADE of its LOOK, 7 and 8 STRENGTH, 9 1 with LYE",
                EdgeDaysTest::ledLook);
        Edge.of("10 the LOT from which it came (NONE), 11 pieces, 12 of them still of it, 13 delivered, 14 whether its "
                + "LOOK SURELY meets its WISH (1, 0), 15 its CLOTH. NoSuchElementException: another what.",
                EdgeDaysTest::ledOfALot);
        Edge.of("Of a MACHINE what 0 HOLDS, 1 the LOT in it (NONE), 2 how many are LOADED, 3 the KIND that was in it "
                + "last, or is (NONE), 4 minutes that went by in all. NoSuchElementException: another what.",
                EdgeDaysTest::worksWhats);
        Check.done("EdgeDaysTest");
    }

    /** CLOTH 0 of SHADE 100, STRENGTH 80, HARD 0, and such MACHINES. */
    private static TrouserWash with(int... holds) {
        TrouserWash x = new TrouserWash();
        x.cloth(100, 80, 0);
        for (int hold : holds) {
            x.machine(hold);
        }
        return x;
    }

    private static int lot(TrouserWash x, int pieces, int kind) {
        return x.lot(0, pieces, kind, 0, 255, 0, 400);
    }

    private static int loaded(TrouserWash x, int pieces, int kind) {
        int number = lot(x, pieces, kind);
        x.load(number, 0);
        return number;
    }

    private static void led(TrouserWash x, int lot, int... pairs) {
        for (int i = 0; i < pairs.length; i += 2) {
            Check.is("led(" + lot + ", " + pairs[i] + ")", x.led(lot, pairs[i]), pairs[i + 1]);
        }
    }

    private static void works(TrouserWash x, int machine, int... due) {
        for (int what = 0; what < due.length; what++) {
            Check.is("works(" + machine + ", " + what + ")", x.works(machine, what), due[what]);
        }
    }

    private static void counts(TrouserWash x, int... pairs) {
        for (int i = 0; i < pairs.length; i += 2) {
            Check.is("count(" + pairs[i] + ")", x.count(pairs[i]), pairs[i + 1]);
        }
    }

    private static void firstAndLastDay() {
        TrouserWash x = with(1);
        Check.is("at first", x.count(10), 0);
        Check.is("days(0)", x.days(0), 0);
        for (int i = 1; i <= 6; i++) {
            x.days(60);
        }
        Check.is("the day ahead of the last", x.days(39), 399);
        loaded(x, 1, 0);
        Check.is("the last day", x.days(1), 400);
        led(x, 0, 0, 3, 4, 400);
        loaded(x, 1, 0);
        Check.is("no day behind it", x.days(1), 400);
        Check.is("nor sixty", x.days(60), 400);
        led(x, 1, 0, 1, 4, -1);
        Check.is("count", x.count(10), 400);
    }

    private static void machines() {
        Edge.bounds("HOLDS", 1, 60, n -> new TrouserWash().machine(n));
        TrouserWash x = new TrouserWash();
        for (int i = 0; i < 4; i++) {
            Check.is("a MACHINE", x.machine(i == 3 ? 60 : i + 1), i);
        }
        Check.full("no 5th", () -> x.machine(1));
        Check.is("HOLDS of the first", x.works(0, 0), 1);
        Check.is("HOLDS of the last", x.works(3, 0), 60);
    }

    private static void fortyLots() {
        TrouserWash x = with(60);
        for (int i = 0; i < 40; i++) {
            Check.is("a LOT", loaded(x, i + 1, 5), i);
        }
        Check.full("no 41st", () -> lot(x, 1, 0));
        led(x, 0, 11, 1);
        led(x, 39, 11, 40);
        Check.is("all are LOADED", x.works(0, 2), 40);
        x.days(1);
        Check.is("all are WASHED", x.count(13), 40);
        Check.is("none is LOADED any more", x.works(0, 2), 0);
    }

    private static void pieces() {
        Edge.bounds("pieces", 1, 60, n -> lot(with(), n, 0));
        TrouserWash x = with(60);
        loaded(x, 1, 0);
        loaded(x, 60, 0);
        x.days(1);
        Edge.numbered("piece of 1", 1, n -> x.known(0, n, 0));
        Edge.numbered("piece of 60", 60, n -> x.known(1, n, 0));
        Edge.numbered("piece of 60, measured", 60, n -> x.measure(1, n, 5));
    }

    private static void lotNumbers() {
        TrouserWash x = with();
        Edge.numbered("KIND", 6, n -> x.lot(0, 1, n, 0, 255, 0, 0));
        Edge.bounds("from, to 7", 0, 7, n -> x.lot(0, 1, 0, n, 7, 0, 0));
        Edge.bounds("to, from 7", 7, 255, n -> x.lot(0, 1, 0, 7, n, 0, 0));
        Edge.bounds("STRENGTH", 0, 255, n -> x.lot(0, 1, 0, 0, 255, n, 0));
        Edge.bounds("DUE", 0, 400, n -> x.lot(0, 1, 0, 0, 255, 0, n));
        Check.is("those that were taken", x.count(12), 10);
    }

    private static void recipeAsItIs() {
        TrouserWash x = with(1);
        lot(x, 1, 0);
        Check.recipe(x, "rinse" + ";rinse".repeat(19));
        lot(x, 1, 0);
        Check.recipe(x, "wash 2");
        lot(x, 1, 0);
        x.recipe();
        for (int i = 0; i < 3; i++) {
            led(x, i, 0, 0, 2, 0, 4, -1);
            x.load(i, 0);
        }
        led(x, 0, 3, 0);
        led(x, 1, 3, 20);
        led(x, 2, 3, 1);
        x.days(1);
        led(x, 0, 0, 3, 2, 0, 5, 100);
        led(x, 1, 0, 3, 2, 20, 5, 100);
        led(x, 2, 0, 3, 2, 1, 5, 98);
    }

    private static void behindAll() {
        TrouserWash x = with(5, 6);
        Check.recipe(x, "wash 20;wash 20;wash 20;wash 20;wash 20;wash 20;wash 20;wash 20;wash 20");
        lot(x, 5, 0);
        lot(x, 6, 1);
        lot(x, 5, 2);
        Check.is("6 pieces on one of 5", x.load(1, 0), false);
        Check.is("5 pieces on one of 5", x.load(2, 0), true);
        Check.is("behind it", x.load(0, 0), true);
        Check.is("6 pieces on one of 6", x.load(1, 1), true);
        Check.is("LOADED already", x.load(0, 1), false);
        works(x, 0, 5, -1, 2);
        works(x, 1, 6, -1, 1);
        x.days(1);
        works(x, 0, 5, 2, 1, 2, 480);
        works(x, 1, 6, 1, 0, 1, 480);
        led(x, 2, 0, 2, 1, 0, 2, 8);
        led(x, 0, 0, 1, 1, 0, 2, 0);
        Check.is("in a MACHINE", x.load(2, 1), false);
        x.days(1);
        led(x, 2, 0, 3, 1, -1, 2, 9);
        led(x, 0, 0, 2, 1, 0, 2, 7);
    }

    /** 24 LOTS of 20 rinses of a minute each are 480 minutes. */
    private static void wholeDay() {
        TrouserWash x = with(1, 1);
        Check.house(x, "minutes rinse 1");
        Check.recipe(x, "rinse" + ";rinse".repeat(19));
        for (int i = 0; i < 30; i++) {
            loaded(x, 1, 0);
        }
        x.load(lot(x, 1, 0), 1);
        Check.is("TODAY", x.days(1), 1);
        Check.is("480 minutes", x.works(0, 4), 480);
        led(x, 23, 0, 3, 2, 20, 4, 1);
        led(x, 24, 2, 0, 4, -1);
        led(x, 30, 0, 3, 2, 20, 4, 1);
        Check.is("the other MACHINE has its own", x.works(1, 4), 20);
        Check.is("TODAY", x.days(1), 2);
        Check.is("120 more", x.works(0, 4), 600);
        led(x, 29, 0, 3, 4, 2);
        byNumbers();
        exactly(24, 20, 480);
        exactly(25, 20, 0);
    }

    /** The wash finds the water of the rinse only if the rinse is on the MACHINE of the lesser number. */
    private static void byNumbers() {
        int[][] due = {{0, 5 + 3, 3}, {1, 3 + 2, 0}};
        for (int[] d : due) {
            TrouserWash x = with(10, 10);
            x.tank(1000);
            Check.house(x, "litres 1;pours rinse to 0;bears wash 100");
            Check.recipe(x, "wash 1");
            x.load(lot(x, 5, 0), d[0]);
            Check.recipe(x, "rinse");
            x.load(lot(x, 3, 0), 1 - d[0]);
            x.days(1);
            Check.is("FRESH, the wash on " + d[0], x.count(4), d[1]);
            Check.is("WATER, the wash on " + d[0], x.has(0, 1), d[2]);
        }
    }

    private static void exactly(int minutes, int n, int done) {
        TrouserWash x = with(1);
        Check.house(x, "minutes stone " + minutes);
        Check.recipe(x, "stone " + n);
        loaded(x, 1, 0);
        x.days(1);
        Check.is(minutes + " times " + n, x.works(0, 4), done);
        x.days(60);
        Check.is("nor any day later", x.led(0, 0), done == 0 ? 2 : 3);
    }

    private static void firstNotBarred() {
        TrouserWash x = with(1);
        for (int a = 0; a < 6; a++) {
            for (int b = 0; b < 6; b++) {
                if (a != b) {
                    x.carry(a, b, -1);
                }
            }
        }
        loaded(x, 1, 3);
        loaded(x, 1, 0);
        loaded(x, 1, 3);
        x.days(1);
        works(x, 0, 1, -1, 1, 3, 0);
        led(x, 0, 0, 3);
        led(x, 1, 0, 1, 1, 0);
        led(x, 2, 0, 3);
        x.days(5);
        led(x, 1, 0, 1);
        x.carry(3, 0, 0);
        x.days(1);
        led(x, 1, 0, 3, 4, 7);
        works(x, 0, 1, -1, 0, 0, 0);
        TrouserWash y = with(1);
        y.carry(0, 1, -1);
        loaded(y, 1, 1);
        loaded(y, 1, 0);
        loaded(y, 1, 1);
        y.days(1);
        works(y, 0, 1, -1, 1, 0);
        led(y, 2, 0, 1);
    }

    /** The first LOT takes 380 minutes, so that 100 are left: a CARRY of 100 fits, with one minute less it does not. */
    private static void carryMinutes() {
        carryAfter("wash 20", 100, 480, 1);
        carryAfter("wash 20;rinse", 100, 381, 0);
        carryAfter("wash 20;rinse", 99, 480, 1);
        carryAfter("wash 20", 0, 380, 1);
        TrouserWash x = with(1);
        x.carry(0, 1, 100);
        loaded(x, 1, 1);
        x.days(1);
        counts(x, 4, 0, 5, 0, 8, 0);
        Check.is("no CARRY ahead of the first", x.works(0, 4), 0);
        loaded(x, 1, 1);
        x.days(1);
        counts(x, 4, 0, 5, 0, 8, 0);
        loaded(x, 1, 0);
        loaded(x, 1, 1);
        x.days(1);
        counts(x, 4, 100, 5, 100, 8, 100, 7, 0);
        Check.is("CARRY from the KIND of another day", x.works(0, 4), 100);
        laterOneNot();
    }

    /** 99 minutes are left: the first LOT wants a CARRY of 100, so that the one behind it is not taken either. */
    private static void laterOneNot() {
        TrouserWash x = with(1);
        Check.house(x, "minutes wash 19;minutes rinse 1");
        x.carry(0, 1, 100);
        Check.recipe(x, "wash 20;rinse");
        loaded(x, 1, 0);
        x.recipe();
        loaded(x, 1, 1);
        loaded(x, 1, 0);
        x.days(1);
        works(x, 0, 1, -1, 2, 0, 381);
        led(x, 2, 0, 1);
        x.days(1);
        works(x, 0, 1, -1, 0, 0, 481);
        led(x, 1, 4, 2);
        led(x, 2, 4, 2);
    }

    private static void carryAfter(String first, int litres, int minutes, int taken) {
        TrouserWash x = with(1);
        x.tank(1000);
        x.pour(0, 1000, 0);
        Check.house(x, "minutes wash 19;minutes rinse 1;litres 1;bears wash 100;pours wash to 0;bears rinse 100");
        x.carry(0, 1, litres);
        Check.recipe(x, first);
        loaded(x, 1, 0);
        Check.recipe(x, "wash 6");
        loaded(x, 1, 1);
        int offBefore = first.equals("wash 20") ? 0 : 1;
        x.days(1);
        Check.is("minutes with CARRY " + litres, x.works(0, 4), minutes);
        led(x, 1, 0, 1 + taken, 1, 0, 2, 0);
        counts(x, 4, taken * litres, 5, taken * litres + offBefore);
        Check.is("LOADED", x.works(0, 2), 1 - taken);
        x.days(1);
        Check.is("minutes a day later", x.works(0, 4), minutes + (1 - taken) * litres + 114);
        counts(x, 4, litres);
        led(x, 1, 0, 3, 4, 2);
    }

    private static void allItsMinutes() {
        TrouserWash x = with(1);
        Check.house(x, "minutes wash 60;minutes rinse 1;minutes stone 1");
        Check.recipe(x, "wash 4;wash 4;rinse;stone 1");
        loaded(x, 1, 0);
        loaded(x, 1, 0);
        x.days(1);
        works(x, 0, 1, 0, 1, 0, 480);
        led(x, 0, 0, 2, 1, 0, 2, 2, 4, -1);
        x.days(1);
        works(x, 0, 1, 1, 0, 0, 722);
        led(x, 0, 0, 3, 2, 4, 4, 2);
        led(x, 1, 0, 2, 2, 1);
        x.days(1);
        led(x, 1, 0, 3, 2, 4, 4, 3);
        Check.is("all", x.works(0, 4), 964);
        oneMinuteShort();
    }

    /** 241 minutes are left over for a BATH of 242, and the shorter one behind it is not done instead. */
    private static void oneMinuteShort() {
        TrouserWash x = with(1);
        Check.house(x, "minutes wash 1;minutes stone 22;minutes rinse 1;minutes bleach 17");
        Check.recipe(x, "bleach 14;rinse;stone 11;rinse");
        loaded(x, 1, 0);
        x.days(1);
        Check.is("242 of 241 left", x.led(0, 2), 2);
        Check.is("minutes", x.works(0, 4), 239);
        x.days(1);
        led(x, 0, 0, 3, 2, 4, 4, 2);
        TrouserWash y = with(1);
        Check.house(y, "minutes stone 22;minutes bleach 17");
        Check.recipe(y, "bleach 14;stone 11");
        loaded(y, 1, 0);
        y.days(1);
        Check.is("242 of 242 left", y.led(0, 2), 2);
        led(y, 0, 0, 3, 4, 1);
    }

    private static void washedAtOnce() {
        TrouserWash x = with(1);
        Check.is("no BATH: it WAITS", x.led(lot(x, 1, 0), 0), 0);
        x.load(0, 0);
        Check.is("no BATH: it is LOADED", x.led(0, 0), 1);
        Check.recipe(x, "wash 20;rinse");
        Check.house(x, "minutes wash 23;minutes rinse 20");
        loaded(x, 1, 0);
        x.recipe();
        loaded(x, 1, 0);
        x.days(1);
        for (int i = 0; i < 3; i++) {
            led(x, i, 0, 3, 4, 1);
        }
        works(x, 0, 1, -1, 0, 0, 480);
        Check.house(x, "minutes wash 23;minutes rinse 21");
        Check.recipe(x, "wash 20;rinse");
        loaded(x, 1, 0);
        x.recipe();
        loaded(x, 1, 0);
        x.days(1);
        led(x, 3, 0, 2, 2, 1, 4, -1);
        led(x, 4, 0, 1);
        x.days(1);
        led(x, 3, 0, 3, 2, 2, 4, 3);
        led(x, 4, 0, 3, 4, 3);
    }

    /** 60 pieces with 20 litres draw 1200, from all TANKS that have no more than 30 in a hundred. */
    private static void drawOfABath() {
        TrouserWash x = with(60);
        int[] dirt = {300, 310, 0};
        for (int i = 0; i < 3; i++) {
            x.tank(1000);
            x.pour(i, i == 2 ? 150 : 1000, dirt[i]);
        }
        Check.house(x, "litres 20;bears wash 30;bears rinse 31");
        Check.recipe(x, "wash 1");
        loaded(x, 60, 0);
        x.days(1);
        counts(x, 4, 50, 5, 1200);
        Check.is("30 in a hundred", x.has(0, 1), 0);
        Check.is("31 in a hundred", x.has(1, 1), 1000);
        Check.is("none in it", x.has(2, 1), 0);
        Check.is("DIRT", x.count(8), 300 + 60);
        TrouserWash y = with(60);
        Check.house(y, "litres 1");
        Check.recipe(y, "wash 1");
        loaded(y, 1, 0);
        y.days(1);
        counts(y, 4, 1, 5, 1, 8, 1);
    }

    private static void dirtOfABath() {
        String[] baths = {"wash 1", "wash 20", "stone 1", "stone 20", "bleach 1", "bleach 20", "rinse"};
        int[] each = {1, 20, 2, 40, 8, 65, 1};
        for (int i = 0; i < baths.length; i++) {
            for (int pieces : new int[] {1, 60}) {
                TrouserWash x = with(60);
                Check.recipe(x, baths[i]);
                loaded(x, pieces, 0);
                x.days(1);
                Check.is("DIRT of " + baths[i] + " of " + pieces, x.count(8), pieces * each[i]);
            }
        }
        TrouserWash x = with(60);
        x.tank(100);
        x.pour(0, 100, 7);
        Check.house(x, "litres 1;bears rinse 7");
        Check.recipe(x, "rinse");
        loaded(x, 2, 0);
        x.days(1);
        Check.is("with what was drawn", x.count(8), 2 + 1);
    }

    /** 10 pieces, 50 litres with 30 of DIRT, into a TANK that holds as much, one less, or is not there. */
    private static void pourOfABath() {
        int[][] due = {{50, 50, 30, 0, 0}, {51, 50, 30, 0, 0}, {49, 49, 29, 1, 1}, {1, 1, 0, 49, 30}, {25, 25, 15, 25, 15}};
        for (int[] d : due) {
            TrouserWash x = with(60);
            x.tank(d[0]);
            Check.house(x, "pours wash to 0");
            Check.recipe(x, "wash 3");
            loaded(x, 10, 0);
            x.days(1);
            Check.is("WATER in " + d[0], x.has(0, 1), d[1]);
            Check.is("DIRT in " + d[0], x.has(0, 2), d[2]);
            counts(x, 5, d[3], 8, d[4]);
        }
        TrouserWash x = with(60);
        x.tank(1000);
        Check.house(x, "pours wash to 1");
        Check.recipe(x, "wash 3");
        loaded(x, 10, 0);
        x.days(1);
        counts(x, 5, 50, 8, 30, 6, 0);
    }

    /** A full TANK gives 50 litres first, so that there is room for them again. */
    private static void drawnThenPoured() {
        TrouserWash x = with(60);
        x.tank(50);
        x.pour(0, 50, 5);
        Check.house(x, "pours wash to 0;bears wash 10");
        Check.recipe(x, "wash 3");
        loaded(x, 10, 0);
        x.days(1);
        counts(x, 4, 0, 5, 0, 8, 0);
        Check.is("WATER", x.has(0, 1), 50);
        Check.is("DIRT", x.has(0, 2), 35);
        loaded(x, 10, 0);
        x.days(1);
        counts(x, 4, 50, 5, 50, 8, 30);
        Check.is("too dirty now", x.has(0, 2), 35);
    }

    private static void notDrawnByHand() {
        TrouserWash x = with(60);
        x.tank(100);
        x.pour(0, 100, 10);
        Check.house(x, "bears wash 10");
        Check.recipe(x, "wash 1");
        loaded(x, 10, 0);
        x.days(1);
        counts(x, 6, 5, 7, 0, 8, 5 + 10);
        x.draw(50, 10);
        counts(x, 6, 0, 7, 5, 8, 15);
    }

    private static void lookOfALot() {
        TrouserWash x = with(1);
        Check.house(x, "minutes wash 24;minutes stone 24;minutes bleach 24");
        Check.recipe(x, "wash 20;stone 20;bleach 20");
        loaded(x, 1, 0);
        int[][] due = {{100, 100, 80, 80, 0}, {80, 90, 80, 80, 0}, {57, 70, 58, 60, 0}, {0, 30, 38, 60, 1}};
        for (int day = 0; day <= 3; day++) {
            for (int what = 0; what < 5; what++) {
                Check.is("after " + day + " BATHS, led " + (5 + what), x.led(0, 5 + what), due[day][what]);
            }
            led(x, 0, 2, day);
            x.days(1);
        }
    }

    private static void fifthMachine() {
        TrouserWash x = new TrouserWash();
        Check.argument("HOLDS 0", () -> x.machine(0));
        for (int i = 0; i < 4; i++) {
            Check.is("a MACHINE", x.machine(9), i);
        }
        Check.full("a 5th", () -> x.machine(9));
        Check.argument("a 5th that HOLDS 0", () -> x.machine(0));
        Check.argument("a 5th that HOLDS 61", () -> x.machine(61));
        Check.is("how many", x.count(11), 4);
        Check.index("there is none behind the 4th", () -> x.works(4, 0));
    }

    private static void fortyFirstLot() {
        TrouserWash x = with();
        Edge.numbered("CLOTH", 1, n -> x.lot(n, 1, 0, 0, 255, 0, 0));
        Check.index("CLOTH ahead of pieces", () -> x.lot(1, 0, 0, 0, 255, 0, 0));
        Check.index("KIND ahead of pieces", () -> x.lot(0, 0, 6, 0, 255, 0, 0));
        for (int i = x.count(12); i < 40; i++) {
            Check.is("a LOT", lot(x, 1, 0), i);
        }
        Check.full("a 41st", () -> lot(x, 1, 0));
        Check.argument("a 41st without pieces", () -> lot(x, 0, 0));
        Check.argument("a 41st of no WISH", () -> x.lot(0, 1, 0, 1, 0, 0, 0));
        Check.argument("a 41st of no DUE", () -> x.lot(0, 1, 0, 0, 255, 0, 401));
        Check.index("a 41st of no KIND", () -> lot(x, 1, 6));
        Check.is("how many", x.count(12), 40);
        Check.index("there is none behind the 40th", () -> x.led(40, 0));
    }

    private static void notLoaded() {
        TrouserWash x = with(60, 59);
        Check.house(x, "minutes wash 60");
        Check.recipe(x, "wash 8;wash 8");
        lot(x, 60, 0);
        Check.is("60 on one of 59", x.load(0, 1), false);
        led(x, 0, 0, 0, 1, -1);
        works(x, 1, 59, -1, 0);
        Check.is("60 on one of 60", x.load(0, 0), true);
        led(x, 0, 0, 1, 1, 0);
        Check.is("LOADED", x.load(0, 0), false);
        works(x, 0, 60, -1, 1);
        x.days(1);
        led(x, 0, 0, 2);
        Check.is("in a MACHINE", x.load(0, 0), false);
        works(x, 0, 60, 0, 0);
        x.days(1);
        led(x, 0, 0, 3);
        Check.is("WASHED", x.load(0, 0), false);
        works(x, 0, 60, -1, 0);
        Edge.numbered("LOT", 1, n -> x.load(n, 0));
        Edge.numbered("MACHINE", 2, n -> x.load(0, n));
    }

    private static void soManyDays() {
        Edge.bounds("days", 0, 60, n -> new TrouserWash().days(n));
        TrouserWash x = new TrouserWash();
        Check.is("0", x.days(0), 0);
        Check.is("1", x.days(1), 1);
        Check.is("60", x.days(60), 61);
        for (int i = 2; i <= 6; i++) {
            x.days(60);
        }
        Check.is("up to 400", x.days(39), 400);
        Check.is("no farther", x.days(60), 400);
        Check.argument("-1 on the last day", () -> x.days(-1));
        Check.argument("61 on the last day", () -> x.days(61));
        TrouserWash y = new TrouserWash();
        for (int i = 1; i <= 6; i++) {
            y.days(60);
        }
        Check.is("41 of which 40 are left", y.days(41), 400);
    }

    private static void ledOnTheWay() {
        TrouserWash x = with(1, 1);
        Check.house(x, "minutes wash 60");
        Check.recipe(x, "wash 8;wash 1");
        lot(x, 1, 0);
        led(x, 0, 0, 0, 1, -1, 2, 0, 3, 2, 4, -1);
        x.load(0, 1);
        led(x, 0, 0, 1, 1, 1, 2, 0, 3, 2, 4, -1);
        x.days(1);
        led(x, 0, 0, 2, 1, 1, 2, 1, 3, 2, 4, -1);
        x.days(1);
        led(x, 0, 0, 3, 1, -1, 2, 2, 3, 2, 4, 2);
        x.days(9);
        led(x, 0, 0, 3, 1, -1, 2, 2, 3, 2, 4, 2);
    }

    private static void ledLook() {
        TrouserWash x = with(1);
        lot(x, 1, 0);
        led(x, 0, 5, 100, 6, 100, 7, 80, 8, 80, 9, 0);
        String[] recipes = {"stone 1;bleach 1", "stone 1;bleach 1;rinse"};
        for (int i = 0; i < 2; i++) {
            Check.recipe(x, recipes[i]);
            loaded(x, 1, 0);
            x.days(1);
            led(x, 1 + i, 5, 93, 6, 97, 7, 76, 8, 79, 9, 1 - i);
        }
        x.cloth(0, 0, 0);
        x.lot(1, 1, 0, 0, 255, 0, 0);
        x.cloth(255, 255, 0);
        x.lot(2, 1, 0, 0, 255, 0, 0);
        led(x, 3, 5, 0, 6, 0, 7, 0, 8, 0, 9, 0);
        led(x, 4, 5, 255, 6, 255, 7, 255, 8, 255, 9, 0);
    }

    private static void ledOfALot() {
        TrouserWash x = with(5);
        x.cloth(50, 40, 1);
        x.lot(1, 3, 0, 50, 50, 40, 9);
        x.lot(1, 1, 0, 51, 51, 40, 9);
        x.lot(1, 1, 0, 50, 50, 41, 9);
        x.lot(0, 1, 0, 100, 100, 80, 9);
        led(x, 0, 10, -1, 11, 3, 12, 3, 13, 0, 14, 1, 15, 1);
        led(x, 1, 14, 0, 15, 1);
        led(x, 2, 14, 0, 15, 1);
        led(x, 3, 14, 1, 15, 0);
        Edge.whats("what", 15, n -> x.led(0, n));
        Edge.numbered("LOT", 4, n -> x.led(n, 0));
        Check.house(x, "pack 1;again 1 times with wash 1");
        x.load(0, 0);
        x.days(1);
        x.measure(0, 0, 50);
        x.measure(0, 2, 51);
        x.deliver(1, 1);
        led(x, 0, 11, 3, 12, 2, 13, 1);
        x.again(0);
        led(x, 0, 11, 3, 12, 1, 13, 1);
        led(x, 4, 10, 0, 11, 1, 12, 1, 13, 0, 14, 0, 15, 1);
    }

    private static void worksWhats() {
        TrouserWash x = with(7, 60);
        works(x, 0, 7, -1, 0, -1, 0);
        works(x, 1, 60, -1, 0, -1, 0);
        Check.house(x, "minutes wash 60");
        Check.recipe(x, "wash 8;wash 1");
        loaded(x, 1, 5);
        works(x, 0, 7, -1, 1, -1, 0);
        x.days(1);
        works(x, 0, 7, 0, 0, 5, 480);
        works(x, 1, 60, -1, 0, -1, 0);
        x.days(1);
        works(x, 0, 7, -1, 0, 5, 540);
        x.days(1);
        works(x, 0, 7, -1, 0, 5, 540);
        Edge.whats("what", 4, n -> x.works(0, n));
        Edge.numbered("MACHINE", 2, n -> x.works(n, 0));
    }
}
