/** Promises 25 to 30: MACHINES, LOTS, loading, DAYS, and what is told of them. */
final class DaysTest {
    public static void main(String[] args) {
        machines();
        wrongLots();
        loading();
        oneLot();
        bathsOverDays();
        emptyRecipe();
        carryAndBarred();
        carryThatIsNotLeft();
        waterGoesRound();
        tankThatIsNotThere();
        machinesByNumber();
        laterRecipeChangesNothing();
        aWholeDay();
        fourMachines();
        calendar();
        Check.done("DaysTest");
    }

    private static TrouserWash withCloth() {
        TrouserWash x = new TrouserWash();
        x.cloth(100, 80, 0);
        return x;
    }

    private static int lot(TrouserWash x, int pieces, int kind) {
        return x.lot(0, pieces, kind, 0, 255, 0, 400);
    }

    private static void led(TrouserWash x, int lot, int... due) {
        for (int i = 0; i < due.length; i += 2) {
            Check.is("led(" + lot + ", " + due[i] + ")", x.led(lot, due[i]), due[i + 1]);
        }
    }

    private static void works(TrouserWash x, int machine, int... due) {
        for (int what = 0; what < due.length; what++) {
            Check.is("works(" + machine + ", " + what + ")", x.works(machine, what), due[what]);
        }
    }

    private static void machines() {
        TrouserWash x = new TrouserWash();
        Check.argument("machine(0)", () -> x.machine(0));
        Check.argument("machine(61)", () -> x.machine(61));
        Check.index("works of none", () -> x.works(0, 9));
        for (int i = 0; i < 4; i++) {
            Check.is("machine", x.machine(i == 0 ? 60 : i), i);
        }
        Check.full("a 5th", () -> x.machine(1));
        Check.argument("a 5th that holds none", () -> x.machine(0));
        Check.element("works what 5", () -> x.works(0, 5));
        Check.element("works what -1", () -> x.works(0, -1));
        Check.index("works of 4", () -> x.works(4, 0));
        works(x, 0, 60, -1, 0, -1, 0);
        works(x, 3, 3, -1, 0, -1, 0);
        Check.is("count", x.count(11), 4);
    }

    private static void wrongLots() {
        TrouserWash x = withCloth();
        int[][] index = {{1, 0, 6}, {-1, 1, 0}, {0, 0, 6}, {0, 1, -1}};
        for (int[] n : index) {
            Check.index("lot", () -> x.lot(n[0], n[1], n[2], 5, 4, 0, 0));
        }
        int[][] none = {{0, 0, 9, 0, 0}, {61, 0, 9, 0, 0}, {1, -1, 9, 0, 0}, {1, 5, 4, 0, 0}, {1, 0, 256, 0, 0},
                {1, 0, 9, -1, 0}, {1, 0, 9, 256, 0}, {1, 0, 9, 0, -1}, {1, 0, 9, 0, 401}};
        for (int[] n : none) {
            Check.argument("lot", () -> x.lot(0, n[0], 0, n[1], n[2], n[3], n[4]));
        }
        Check.index("led of none", () -> x.led(0, 99));
        for (int i = 0; i < 40; i++) {
            Check.is("lot", x.lot(0, i % 2 == 0 ? 1 : 60, 5, 0, 255, 255, i % 2 == 0 ? 0 : 400), i);
        }
        Check.full("a 41st", () -> lot(x, 1, 0));
        Check.argument("a 41st that is none", () -> lot(x, 0, 0));
        Check.is("count", x.count(12), 40);
        Check.index("led of 40", () -> x.led(40, 0));
        Check.index("led of -1", () -> x.led(-1, 0));
        Check.element("led what 16", () -> x.led(0, 16));
        Check.element("led what -1", () -> x.led(0, -1));
        led(x, 1, 0, 0, 1, -1, 2, 0, 3, 0, 4, -1, 5, 100, 6, 100, 7, 80, 8, 80, 9, 0, 10, -1, 11, 60, 12, 60, 13, 0,
                14, 0, 15, 0);
    }

    private static void loading() {
        TrouserWash x = withCloth();
        lot(x, 10, 0);
        lot(x, 11, 0);
        Check.index("no machine", () -> x.load(0, 0));
        x.machine(10);
        Check.index("machine -1", () -> x.load(0, -1));
        Check.index("lot 2", () -> x.load(2, 0));
        Check.index("lot -1", () -> x.load(-1, 0));
        Check.is("too many pieces", x.load(1, 0), false);
        Check.is("as many as it holds", x.load(0, 0), true);
        Check.is("not waiting any more", x.load(0, 0), false);
        led(x, 0, 0, 1, 1, 0);
        led(x, 1, 0, 0, 1, -1);
        works(x, 0, 10, -1, 1, -1, 0);
        x.days(1);
        Check.is("washed", x.load(0, 0), false);
        led(x, 0, 0, 3, 1, -1);
    }

    /** 10 pieces, 50 litres a bath; wash 15, stone 8, bleach 5, rinse 4 minutes. */
    private static void oneLot() {
        TrouserWash x = withCloth();
        Check.recipe(x, "wash 5;stone 2;bleach 1;rinse");
        x.machine(60);
        x.lot(0, 10, 3, 84, 94, 75, 0);
        x.load(0, 0);
        Check.is("days(0)", x.days(0), 0);
        led(x, 0, 0, 1);
        Check.is("days(1)", x.days(1), 1);
        led(x, 0, 0, 3, 1, -1, 2, 4, 3, 4, 4, 1, 5, 87, 6, 94, 7, 75, 8, 78, 9, 0, 14, 1);
        works(x, 0, 60, -1, 0, 3, 32);
        Check.is("fresh", x.count(4), 200);
        Check.is("ran off", x.count(5), 200);
        Check.is("dirt that ran off", x.count(8), 50 + 40 + 80 + 10);
        Check.is("drawn by hand", x.count(7), 0);
        Check.is("washed", x.count(13), 1);
    }

    /** 20 for each n, n of 20: 400 minutes each; the second one must wait for the next day. */
    private static void bathsOverDays() {
        TrouserWash x = withCloth();
        Check.house(x, "minutes wash 20;minutes stone 24;minutes rinse 60");
        Check.recipe(x, "wash 20;wash 20;stone 20;rinse");
        x.machine(60);
        lot(x, 1, 2);
        lot(x, 1, 4);
        x.load(0, 0);
        x.load(1, 0);
        x.days(1);
        led(x, 0, 0, 2, 1, 0, 2, 1, 4, -1, 5, 80, 6, 90);
        works(x, 0, 60, 0, 1, 2, 400);
        x.days(1);
        led(x, 0, 0, 2, 1, 0, 2, 2, 4, -1);
        works(x, 0, 60, 0, 1, 2, 800);
        x.days(1);
        led(x, 0, 0, 2, 2, 3);
        works(x, 0, 60, 0, 1, 2, 1280);
        x.days(1);
        led(x, 0, 0, 3, 1, -1, 2, 4, 4, 4);
        led(x, 1, 0, 2, 1, 0, 2, 1);
        works(x, 0, 60, 1, 0, 4, 1740);
        Check.house(x, "minutes stone 25");
        x.days(10);
        led(x, 1, 0, 2, 2, 2);
        works(x, 0, 60, 1, 0, 4, 1800);
    }

    private static void emptyRecipe() {
        TrouserWash x = withCloth();
        x.machine(5);
        lot(x, 5, 1);
        lot(x, 5, 2);
        led(x, 0, 0, 0, 14, 1);
        x.load(0, 0);
        x.load(1, 0);
        led(x, 0, 0, 1, 1, 0);
        x.carry(1, 2, 9);
        x.days(1);
        led(x, 0, 0, 3, 1, -1, 4, 1, 2, 0);
        led(x, 1, 0, 3, 1, -1, 4, 1, 2, 0);
        works(x, 0, 5, -1, 0, 2, 9);
        Check.is("fresh", x.count(4), 9);
        Check.is("ran off", x.count(5), 9);
        Check.is("dirt that ran off", x.count(8), 9);
    }

    /** Kinds 0, 1, 2 loaded; 1 is barred behind 0, so 2 comes ahead of it. */
    private static void carryAndBarred() {
        TrouserWash x = withCloth();
        Check.recipe(x, "rinse");
        x.carry(0, 1, -1);
        x.carry(0, 2, 7);
        x.carry(2, 1, 5);
        x.machine(5);
        for (int kind = 0; kind < 3; kind++) {
            x.load(lot(x, 1, kind), 0);
        }
        x.days(1);
        works(x, 0, 5, -1, 0, 1, 4 + 7 + 4 + 5 + 4);
        Check.is("dirt that ran off", x.count(8), 3 + 12);
        x.carry(1, 0, -1);
        x.load(lot(x, 1, 0), 0);
        x.load(lot(x, 1, 0), 0);
        x.days(3);
        works(x, 0, 5, -1, 2, 1, 24);
        led(x, 3, 0, 1, 1, 0);
        x.load(lot(x, 1, 1), 0);
        x.days(1);
        works(x, 0, 5, -1, 2, 1, 28);
        led(x, 5, 0, 3, 4, 5);
        x.carry(1, 0, 0);
        x.days(1);
        works(x, 0, 5, -1, 0, 0, 36);
    }

    /** The first one that is not barred wants 90 minutes of 80 left: it is waited for, though a later one could go. */
    private static void carryThatIsNotLeft() {
        TrouserWash x = withCloth();
        Check.house(x, "minutes wash 20;minutes rinse 10");
        Check.recipe(x, "wash 20");
        x.carry(0, 1, 90);
        x.machine(5);
        x.load(lot(x, 1, 0), 0);
        Check.recipe(x, "rinse");
        x.load(lot(x, 1, 1), 0);
        x.load(lot(x, 1, 0), 0);
        x.days(1);
        works(x, 0, 5, -1, 2, 0, 400);
        x.days(1);
        works(x, 0, 5, -1, 0, 0, 400 + 90 + 10 + 10);
        x.carry(0, 1, 80);
        Check.house(x, "minutes wash 20;minutes rinse 60");
        Check.recipe(x, "wash 20");
        x.load(lot(x, 1, 0), 0);
        Check.recipe(x, "rinse");
        x.load(lot(x, 1, 1), 0);
        x.days(1);
        works(x, 0, 5, 4, 0, 1, 510 + 480);
        led(x, 4, 0, 2, 2, 0);
        x.days(1);
        works(x, 0, 5, -1, 0, 1, 510 + 540);
    }

    /** 10 pieces, 20 litres; the rinse's water goes to tank 0, where the next bath finds it if it bears its dirt. */
    private static void waterGoesRound() {
        TrouserWash x = withCloth();
        Check.house(x, "litres 2;pours rinse to 0;pours bleach to 1;bears wash 50;bears rinse 46");
        x.tank(15);
        x.tank(100);
        x.machine(20);
        Check.recipe(x, "rinse");
        x.load(lot(x, 10, 0), 0);
        x.days(1);
        water(x, 15, 7, 20, 5, 3);
        x.load(lot(x, 10, 0), 0);
        x.days(1);
        water(x, 15, 7, 40, 25, 13);
        Check.house(x, "litres 2;pours rinse to 0;pours bleach to 1;bears wash 50;bears rinse 47");
        x.load(lot(x, 10, 0), 0);
        x.days(1);
        water(x, 15, 12, 45, 30, 18);
        Check.recipe(x, "wash 3");
        x.load(lot(x, 10, 0), 0);
        x.days(1);
        water(x, 15, 12, 65, 50, 48);
        Check.house(x, "litres 2;pours bleach to 1;bears bleach 80");
        Check.recipe(x, "bleach 2");
        x.load(lot(x, 10, 0), 0);
        x.days(1);
        water(x, 0, 0, 70, 50, 48);
        Check.is("water of tank 1", x.has(1, 1), 20);
        Check.is("dirt of tank 1", x.has(1, 2), 12 + 110);
        Check.is("nothing was drawn by hand", x.count(7), 0);
    }

    private static void water(TrouserWash x, int water, int dirt, int fresh, int ranOff, int dirtOff) {
        Check.is("water", x.has(0, 1), water);
        Check.is("dirt", x.has(0, 2), dirt);
        Check.is("fresh", x.count(4), fresh);
        Check.is("ran off", x.count(5), ranOff);
        Check.is("dirt that ran off", x.count(8), dirtOff);
    }

    private static void tankThatIsNotThere() {
        TrouserWash x = withCloth();
        Check.house(x, "pours wash to 1");
        x.tank(1000);
        x.machine(20);
        Check.recipe(x, "wash 3");
        x.load(lot(x, 10, 0), 0);
        x.days(1);
        Check.is("ran off", x.count(5), 50);
        Check.is("with its dirt", x.count(8), 30);
        x.tank(40);
        x.load(lot(x, 10, 0), 0);
        x.days(1);
        Check.is("10 more ran off", x.count(5), 60);
        Check.is("with a fifth of the dirt", x.count(8), 36);
        Check.is("the rest is in it", x.has(1, 2), 24);
    }

    /** Machine 0 rinses with fresh water first; machine 1 washes with what it poured. */
    private static void machinesByNumber() {
        TrouserWash x = withCloth();
        Check.house(x, "litres 1;pours rinse to 0;bears wash 100");
        x.tank(1000);
        x.machine(60);
        x.machine(60);
        Check.recipe(x, "wash 1");
        lot(x, 30, 0);
        Check.recipe(x, "rinse");
        lot(x, 20, 0);
        x.load(0, 1);
        x.load(1, 0);
        x.days(1);
        Check.is("fresh: 20 for machine 0, 10 for machine 1", x.count(4), 30);
        Check.is("water", x.has(0, 1), 0);
        Check.is("dirt that ran off", x.count(8), 20 + 30);
    }

    private static void laterRecipeChangesNothing() {
        TrouserWash x = withCloth();
        Check.recipe(x, "wash 8");
        x.machine(1);
        lot(x, 1, 0);
        Check.recipe(x, "stone 1;stone 1");
        lot(x, 1, 0);
        x.recipe();
        x.load(0, 0);
        x.load(1, 0);
        x.days(1);
        led(x, 0, 3, 1, 5, 92, 6, 96, 7, 80);
        led(x, 1, 3, 2, 5, 92, 6, 98, 7, 74);
    }

    /** 480 minutes are a day: a 481st is not left. */
    private static void aWholeDay() {
        TrouserWash x = withCloth();
        Check.house(x, "minutes wash 24;minutes rinse 1");
        Check.recipe(x, "wash 20;rinse");
        x.machine(1);
        x.load(lot(x, 1, 0), 0);
        x.days(1);
        led(x, 0, 0, 2, 2, 1);
        works(x, 0, 1, 0, 0, 0, 480);
        x.days(1);
        led(x, 0, 0, 3, 2, 2, 4, 2);
        Check.recipe(x, "wash 20");
        x.load(lot(x, 1, 0), 0);
        x.recipe();
        x.load(lot(x, 1, 0), 0);
        x.days(1);
        led(x, 1, 0, 3, 4, 3);
        led(x, 2, 0, 3, 4, 3);
    }

    private static void fourMachines() {
        TrouserWash x = withCloth();
        x.cloth(50, 50, 5);
        for (int i = 0; i < 4; i++) {
            x.machine(1);
            x.lot(1, 1, i, 0, 255, 0, 0);
            x.load(i, i);
            led(x, i, 0, 1, 1, i);
        }
        x.days(1);
        for (int i = 0; i < 4; i++) {
            led(x, i, 0, 3, 1, -1, 4, 1, 9, 0, 15, 1);
            works(x, i, 1, -1, 0, i, 0);
        }
    }

    private static void calendar() {
        TrouserWash x = new TrouserWash();
        Check.argument("days(-1)", () -> x.days(-1));
        Check.argument("days(61)", () -> x.days(61));
        for (int i = 1; i <= 6; i++) {
            Check.is("days(60)", x.days(60), 60 * i);
        }
        Check.is("days(39)", x.days(39), 399);
        Check.is("the last", x.days(5), 400);
        Check.is("no more", x.days(60), 400);
        Check.is("count", x.count(10), 400);
        x.cloth(1, 1, 1);
        x.machine(1);
        lot(x, 1, 0);
        x.load(0, 0);
        Check.is("no day more", x.days(1), 400);
        Check.is("not washed", x.led(0, 0), 1);
    }
}
