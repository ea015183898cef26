/** Promises 31 to 36: MEASURES, what is known, AGAIN, DELIVERY. */
final class PiecesTest {
    public static void main(String[] args) {
        measuring();
        knownOnADay();
        mostMeasures();
        againWrong();
        againMoves();
        againTimes();
        againKeepsLye();
        delivering();
        packsByShade();
        shadesAtTheEnds();
        packsOfOthersNot();
        Check.done("PiecesTest");
    }

    /** LOTS of CLOTH 0 (100, 80, 0), WISH 90 to 110, DUE 2, an empty RECIPE, WASHED on day 1. */
    private static TrouserWash washed(int... pieces) {
        TrouserWash x = new TrouserWash();
        x.cloth(100, 80, 0);
        x.machine(60);
        for (int i = 0; i < pieces.length; i++) {
            x.lot(0, pieces[i], 0, 90, 110, 50, 2);
            x.load(i, 0);
        }
        x.days(1);
        return x;
    }

    private static void measureAll(TrouserWash x, int lot, int... shades) {
        for (int i = 0; i < shades.length; i++) {
            x.measure(lot, i, shades[i]);
        }
    }

    private static void measuring() {
        TrouserWash x = washed(3);
        x.lot(0, 2, 0, 0, 255, 0, 0);
        Check.index("lot 2", () -> x.measure(2, 0, 256));
        Check.index("piece 3", () -> x.measure(0, 3, 256));
        Check.index("piece -1", () -> x.measure(0, -1, 0));
        Check.index("piece 2 of one that waits", () -> x.measure(1, 2, 0));
        Check.state("one that waits", () -> x.measure(1, 1, 256));
        Check.argument("shade 256", () -> x.measure(0, 0, 256));
        Check.argument("shade -1", () -> x.measure(0, 0, -1));
        Check.is("measure", x.measure(0, 0, 100), 0);
        Check.is("the only one is known", x.known(0, 0, 1), 2);
        Check.is("odd", x.count(15), 0);
        Check.is("measure", x.measure(0, 1, 99), 1);
        Check.is("measure", x.measure(0, 1, 101), 2);
        Check.is("odd", x.count(15), 2);
        Check.is("measures", x.count(14), 3);
    }

    private static void knownOnADay() {
        TrouserWash x = washed(4);
        x.measure(0, 0, 89);
        x.measure(0, 1, 90);
        x.measure(0, 2, 111);
        x.days(2);
        x.measure(0, 0, 110);
        x.measure(0, 0, 255);
        int[][] due = {{0, 0, 0, 0}, {1, 2, 3, 0}, {1, 2, 3, 0}, {3, 2, 3, 0}, {3, 2, 3, 0}};
        for (int day = 0; day < 5; day++) {
            for (int piece = 0; piece < 4; piece++) {
                Check.is("known " + piece + " on " + day, x.known(0, piece, day), due[day][piece]);
            }
        }
        Check.is("ahead of all", x.known(0, 0, -1), 0);
        Check.is("behind all", x.known(0, 0, Integer.MAX_VALUE), 3);
        Check.index("known of lot 1", () -> x.known(1, 0, 0));
        Check.index("known of piece 4", () -> x.known(0, 4, 0));
        int[][] sorted = {{4, 0, 0, 0}, {1, 1, 1, 1}, {1, 1, 1, 1}, {1, 0, 1, 2}};
        for (int day = 0; day < 4; day++) {
            for (int what = 0; what < 4; what++) {
                Check.is("sorted " + what + " on " + day, x.sorted(0, day, what), sorted[day][what]);
            }
        }
        Check.index("sorted of lot 1", () -> x.sorted(1, 0, 9));
        Check.element("sorted what 4", () -> x.sorted(0, 0, 4));
        Check.element("sorted what -1", () -> x.sorted(0, 0, -1));
        x.lot(0, 2, 0, 0, 255, 0, 0);
        Check.is("of one that waits", x.sorted(1, 3, 0), 2);
        Check.is("of one that waits", x.known(1, 1, 3), 0);
    }

    private static void mostMeasures() {
        TrouserWash x = washed(2);
        for (int i = 0; i < 250; i++) {
            Check.is("measure", x.measure(0, 0, i), i);
        }
        Check.is("a 251st", x.measure(0, 1, 100), -1);
        Check.is("is not told", x.known(0, 1, 9), 0);
        Check.is("nor odd", x.count(15), 249);
        Check.is("nor counted", x.count(14), 250);
        Check.argument("a 251st of no shade", () -> x.measure(0, 1, 256));
    }

    private static void againWrong() {
        TrouserWash x = washed(2);
        x.lot(0, 2, 0, 0, 255, 0, 0);
        Check.index("lot 2", () -> x.again(2));
        Check.state("one that waits", () -> x.again(1));
        measureAll(x, 0, 110, 80);
        Check.house(x, "again 1 times with wash 2");
        Check.is("no piece is dark", x.again(0), -1);
        x.measure(0, 1, 120);
        x.house();
        Check.is("the house lets none", x.again(0), -1);
        Check.house(x, "again 1 times with wash 2");
        for (int i = 2; i < 40; i++) {
            x.lot(0, 2, 0, 0, 255, 0, 0);
        }
        Check.is("there are 40", x.again(0), -1);
        Check.is("nothing happens", x.led(0, 12), 2);
    }

    private static void againMoves() {
        TrouserWash x = washed(6);
        Check.house(x, "again 2 times with stone 3");
        measureAll(x, 0, 115, 100, 130, 255, 80);
        x.measure(0, 3, 90);
        x.measure(0, 5, 122);
        Check.is("again", x.again(0), 1);
        int[] due = {0, -1, 0, 1, -1, 115, 130, 80, 80, 0, 0, 3, 3, 0, 0, 0};
        for (int what = 0; what < due.length; what++) {
            Check.is("the new one: led " + what, x.led(1, what), due[what]);
        }
        Check.is("the old one has", x.led(0, 11), 6);
        Check.is("still of it", x.led(0, 12), 3);
        Check.is("delivered", x.led(0, 13), 0);
        Check.is("its dark ones are gone", x.sorted(0, 1, 3), 0);
        Check.is("its good ones", x.sorted(0, 1, 2), 2);
        Check.is("known still", x.known(0, 0, 1), 3);
        Check.is("not known in the new one", x.known(1, 0, 1), 0);
        Check.is("no dark one left", x.again(0), -1);
        Check.is("one that is gone is measured", x.measure(0, 0, 100), 7);
        Check.is("and known", x.known(0, 0, 1), 2);
        Check.is("but not sorted", x.sorted(0, 1, 2), 2);
        Check.is("load", x.load(1, 0), true);
        Check.is("loaded on", x.led(1, 1), 0);
        x.days(1);
        Check.is("washed: on no machine", x.led(1, 1), -1);
        Check.is("stone 3: the least", x.led(1, 5), 109);
        Check.is("the greatest", x.led(1, 6), 127);
        Check.is("the weakest", x.led(1, 7), 75);
        Check.is("the strongest", x.led(1, 8), 77);
        Check.is("washed on", x.led(1, 4), 2);
        Check.is("dirt of three", x.count(8), 18);
    }

    private static void againTimes() {
        TrouserWash x = washed(4);
        Check.house(x, "again 2 times with wash 2");
        for (int lot = 0; lot < 2; lot++) {
            x.measure(lot, 0, 150);
            x.measure(lot, 1, 160);
            Check.is("again " + lot, x.again(lot), lot + 1);
            x.load(lot + 1, 0);
            x.days(1);
        }
        x.measure(2, 0, 150);
        Check.is("a third time", x.again(2), -1);
        x.measure(0, 2, 150);
        Check.is("others of the first one", x.again(0), 3);
        Check.is("came from", x.led(3, 10), 0);
        Check.house(x, "again 3 times with bleach 2");
        Check.is("another house lets it", x.again(2), 4);
        Check.is("came from", x.led(4, 10), 2);
        Check.is("pieces", x.led(4, 11), 1);
    }

    private static void againKeepsLye() {
        TrouserWash x = new TrouserWash();
        x.cloth(9, 9, 9);
        x.cloth(200, 80, 3);
        x.machine(60);
        Check.recipe(x, "bleach 4");
        x.lot(1, 2, 5, 90, 110, 50, 7);
        x.load(0, 0);
        x.days(1);
        Check.house(x, "again 1 times with bleach 2");
        measureAll(x, 0, 191, 194);
        x.again(0);
        int[][] due = {{5, 191}, {6, 194}, {7, 76}, {8, 80}, {9, 1}, {15, 1}};
        for (int[] d : due) {
            Check.is("led " + d[0], x.led(1, d[0]), d[1]);
        }
        x.load(1, 0);
        x.days(1);
        Check.is("less by 6 less 3", x.led(1, 5), 188);
        Check.is("less by 4 less 3", x.led(1, 6), 193);
        Check.is("kind", x.works(0, 3), 5);
    }

    private static void delivering() {
        TrouserWash x = washed(4, 3);
        Check.index("ready of cloth 1", () -> x.ready(1));
        Check.index("deliver of cloth 1", () -> x.deliver(1, 0));
        Check.argument("no packs", () -> x.deliver(0, 0));
        Check.argument("21 packs", () -> x.deliver(0, 21));
        Check.house(x, "pack 2;band 1");
        Check.is("none is measured", x.ready(0), 0);
        measureAll(x, 0, 100, 101, 102, 89);
        measureAll(x, 1, 103, 110, 111);
        Check.is("100 101, 102 103", x.ready(0), 2);
        Check.is("three are not there", x.deliver(0, 3), -1);
        Check.is("nothing happened", x.led(0, 12), 4);
        Check.is("one in time", x.deliver(0, 1), 0);
        Check.is("delivered", x.led(0, 13), 2);
        Check.is("still", x.led(0, 12), 2);
        Check.is("sorted", x.sorted(0, 1, 2), 1);
        Check.is("known", x.known(0, 0, 1), 2);
        Check.is("ready", x.ready(0), 1);
        x.days(2);
        Check.is("late", x.deliver(0, 1), 2);
        onTheDueDay();
        Check.is("delivered of both", x.led(1, 13), 1);
        Check.is("packs", x.count(16), 2);
        Check.is("late pieces", x.count(17), 2);
        Check.is("ready", x.ready(0), 0);
        Check.is("deliver", x.deliver(0, 1), -1);
    }

    private static void onTheDueDay() {
        TrouserWash x = washed(2);
        Check.house(x, "pack 1");
        measureAll(x, 0, 100, 101);
        x.days(1);
        Check.is("on the day it is due", x.deliver(0, 1), 0);
        x.days(1);
        Check.is("a day later", x.deliver(0, 1), 1);
    }

    private static void shadesAtTheEnds() {
        TrouserWash x = new TrouserWash();
        x.cloth(255, 80, 0);
        x.machine(60);
        x.lot(0, 5, 0, 0, 255, 50, 2);
        x.load(0, 0);
        x.days(1);
        Check.house(x, "pack 2;band 1");
        measureAll(x, 0, 255, 0, 1, 254, 128);
        Check.is("0 1, 254 255", x.ready(0), 2);
        Check.is("both", x.deliver(0, 2), 0);
        Check.is("the one between stays", x.led(0, 12), 1);
        Check.is("and is good", x.sorted(0, 1, 2), 1);
        x.lot(0, 1, 0, 0, 255, 50, 2);
        x.load(1, 0);
        x.days(1);
        x.measure(1, 0, 255);
        Check.house(x, "pack 2;band 50");
        Check.is("128 and 255 are no pack", x.ready(0), 0);
    }

    private static void packsByShade() {
        TrouserWash x = washed(5, 5);
        Check.house(x, "pack 3;band 2");
        measureAll(x, 0, 95, 90, 97, 104, 95);
        measureAll(x, 1, 97, 95, 103, 102, 97);
        Check.is("90 passed by; 95 95 95; 97 97 97; 102 103 104", x.ready(0), 3);
        Check.is("deliver two", x.deliver(0, 2), 0);
        Check.is("left of lot 0: 90, 104", x.led(0, 12), 2);
        Check.is("left of lot 1: 103, 102", x.led(1, 12), 2);
        Check.house(x, "pack 1;band 0");
        Check.is("each one a pack", x.ready(0), 4);
        Check.house(x, "pack 2;band 14");
        Check.is("all", x.ready(0), 2);
        Check.house(x, "pack 4;band 14");
        Check.is("all in one", x.ready(0), 1);
        Check.house(x, "pack 4;band 13");
        Check.is("none", x.ready(0), 0);
        Check.house(x, "pack 5;band 50");
        Check.is("too few", x.ready(0), 0);
        alikeByLotThenPiece();
    }

    private static void alikeByLotThenPiece() {
        TrouserWash x = washed(2, 2);
        Check.house(x, "pack 3;band 0");
        measureAll(x, 1, 100, 100);
        measureAll(x, 0, 100, 100);
        x.deliver(0, 1);
        Check.is("both of lot 0", x.led(0, 13), 2);
        Check.is("one of lot 1", x.led(1, 13), 1);
        x.measure(1, 0, 111);
        x.measure(1, 1, 111);
        Check.is("its piece 1 stays", x.sorted(1, 1, 3), 1);
    }

    private static void packsOfOthersNot() {
        TrouserWash x = washed(2, 2);
        x.cloth(100, 1, 1);
        Check.house(x, "pack 1;again 1 times with wash 1");
        measureAll(x, 0, 100, 200);
        Check.is("ready", x.ready(0), 1);
        Check.is("ready of the other cloth", x.ready(1), 0);
        x.again(0);
        x.measure(0, 1, 100);
        Check.is("one that went to a new lot is not", x.ready(0), 1);
        x.measure(0, 0, 111);
        Check.is("nor one that is dark now", x.ready(0), 0);
        x.load(2, 0);
        x.days(1);
        x.measure(2, 0, 90);
        Check.is("the one washed again", x.ready(0), 1);
        x.days(1);
        Check.is("late", x.deliver(0, 1), 1);
        Check.is("delivered of the new lot", x.led(2, 13), 1);
    }
}
