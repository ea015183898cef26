/** Promises 31 to 36, and part 6 of the terms: a test for each sentence that names a boundary case. */
final class EdgePiecesTest {
    public static void main(String[] args) {
        Edge.of("MEASURES (at most 250, numbered from 0 on): of a piece of a WASHED LOT a SHADE, told TODAY",
                EdgePiecesTest::measures);
        Edge.of("ODD, if that is not in the LOT's span of SHADE.", EdgePiecesTest::odd);
        Edge.of("As known on a day: of each piece the MEASURE told last up to that day", EdgePiecesTest::upToThatDay);
        Edge.of("DARK above the WISH's, LIGHT below it, GOOD else; without one it is not known.",
                EdgePiecesTest::darkAndLight);
        Edge.of("(So also of one that is not of the LOT any more.)", EdgePiecesTest::notOfTheLot);
        Edge.of("A piece is still of its LOT, as long as it did not go to a new one, and was not delivered.",
                EdgePiecesTest::stillOfIt);
        Edge.of("AGAIN of a WASHED LOT: if the house lets it (again: at most so many times for a piece from its first "
                + "LOT on)", EdgePiecesTest::soManyTimes);
        Edge.of("and some piece that is still of it is DARK as known TODAY: all these become a new LOT (numbered among "
                + "it by their order)", EdgePiecesTest::allDarkOnes);
        Edge.of("of the same CLOTH, KIND, WISH, DUE, whose RECIPE is the one BATH of the house", EdgePiecesTest::theSame);
        Edge.of("its LOOK begins with the span from the least to the greatest of their MEASURES, STRENGTH as the LOT "
                + "has it, no LYE but as the LOT has it", EdgePiecesTest::lookBegins);
        Edge.of("they are not of the old LOT any more (their MEASURES there stay told). It WAITS.",
                EdgePiecesTest::goneFromTheOld);
        Edge.of("DELIVERY of so many packs (1 to 20) of a CLOTH, TODAY: of all pieces that are still of a WASHED LOT of "
                + "it, and GOOD as known TODAY", EdgePiecesTest::goodOnes);
        Edge.of("by their SHADE, of several alike by LOT, then by piece", EdgePiecesTest::inOrder);
        Edge.of("a pack has as many pieces as the house tells; it begins with the first that is left",
                EdgePiecesTest::asManyPieces);
        Edge.of("if the one so many behind it is at most band above it they are a pack, and the next pack begins behind "
                + "them; else that first one is passed by.", EdgePiecesTest::band);
        Edge.of("The first packs so found are delivered; none is, if they are fewer than asked for.",
                EdgePiecesTest::firstPacks);
        Edge.of("LATE pieces: delivered behind the DUE of their LOT.", EdgePiecesTest::late);
        Edge.of("A MEASURE: its number; NONE, and it is not told, if there are 250. IllegalArgumentException: SHADE is "
                + "none.", EdgePiecesTest::mostMeasures);
        Edge.of("Of a piece as known on a day: 0 not known, 1 LIGHT, 2 GOOD, 3 DARK.", EdgePiecesTest::knownAnswers);
        Edge.of("How many pieces that are still of a LOT are what (0 to 3, as above) as known on a day. "
                + "NoSuchElementException: another what.", EdgePiecesTest::sortedWhats);
        Edge.of("AGAIN: the new LOT; NONE, and nothing happens, if it may not be, no piece is DARK, or there are 40 "
                + "LOTS.", EdgePiecesTest::noAgain);
        Edge.of("A DELIVERY: how many of its pieces are LATE; NONE, and nothing happens, if there are not so many "
                + "packs. IllegalArgumentException: packs are none.", EdgePiecesTest::noDelivery);
        Edge.of("How many packs of a CLOTH could be delivered TODAY.", EdgePiecesTest::readyPacks);
        Check.done("EdgePiecesTest");
    }

    /** LOTS of CLOTH 0 (100, 80, 0), WISH 90 to 110, DUE 2, an empty RECIPE, WASHED on day 1. */
    private static TrouserWash washed(int... pieces) {
        TrouserWash x = new TrouserWash();
        x.cloth(100, 80, 0);
        x.machine(60);
        for (int i = 0; i < pieces.length; i++) {
            x.lot(0, pieces[i], 0, 90, 110, 50, 2);
            x.load(i, 0);
        }
        x.days(1);
        return x;
    }

    private static void measureAll(TrouserWash x, int lot, int... shades) {
        for (int i = 0; i < shades.length; i++) {
            x.measure(lot, i, shades[i]);
        }
    }

    private static void led(TrouserWash x, int lot, int... pairs) {
        for (int i = 0; i < pairs.length; i += 2) {
            Check.is("led(" + lot + ", " + pairs[i] + ")", x.led(lot, pairs[i]), pairs[i + 1]);
        }
    }

    /** How many are not known, LIGHT, GOOD and DARK TODAY. */
    private static void sorted(TrouserWash x, int lot, int... due) {
        for (int what = 0; what < due.length; what++) {
            Check.is("sorted(" + lot + ", TODAY, " + what + ")", x.sorted(lot, x.count(10), what), due[what]);
        }
    }

    private static void measures() {
        TrouserWash x = washed(2);
        Edge.bounds("SHADE", 0, 255, n -> x.measure(0, 0, n));
        Check.is("two were told", x.count(14), 2);
        TrouserWash y = washed(1);
        for (int i = 0; i < 250; i++) {
            Check.is("a MEASURE", y.measure(0, 0, 100), i);
        }
        Check.is("no 251st", y.measure(0, 0, 100), -1);
        TrouserWash z = washed(1);
        z.days(2);
        z.measure(0, 0, 100);
        Check.is("the day ahead", z.known(0, 0, 2), 0);
        Check.is("TODAY", z.known(0, 0, 3), 2);
    }

    /** The LOT's SHADE is 80 to 90 after wash 20. */
    private static void odd() {
        TrouserWash x = new TrouserWash();
        x.cloth(100, 80, 0);
        x.machine(1);
        Check.recipe(x, "wash 20");
        x.lot(0, 1, 0, 0, 0, 0, 0);
        x.load(0, 0);
        x.days(1);
        int[][] due = {{80, 0}, {90, 0}, {79, 1}, {91, 2}, {0, 3}, {255, 4}, {85, 4}};
        for (int[] d : due) {
            x.measure(0, 0, d[0]);
            Check.is("ODD ones with " + d[0], x.count(15), d[1]);
        }
        Check.argument("one that is none", () -> x.measure(0, 0, 256));
        Check.is("is not ODD", x.count(15), 4);
    }

    private static void upToThatDay() {
        TrouserWash x = washed(2);
        Check.is("none told", x.known(0, 0, 1), 0);
        x.measure(0, 0, 89);
        x.days(2);
        x.measure(0, 0, 111);
        x.days(1);
        x.measure(0, 0, 111);
        x.measure(0, 0, 100);
        int[] due = {0, 1, 1, 3, 2, 2};
        for (int day = 0; day < due.length; day++) {
            Check.is("on day " + day, x.known(0, 0, day), due[day]);
            Check.is("the other piece on day " + day, x.known(0, 1, day), 0);
        }
        Check.is("on day -1", x.known(0, 0, -1), 0);
        Check.is("on the least day", x.known(0, 0, Integer.MIN_VALUE), 0);
        Check.is("on day 400", x.known(0, 0, 400), 2);
        Check.is("on the greatest day", x.known(0, 0, Integer.MAX_VALUE), 2);
    }

    private static void darkAndLight() {
        int[][] wishes = {{90, 110}, {0, 255}, {0, 0}, {255, 255}, {7, 7}};
        for (int[] wish : wishes) {
            TrouserWash x = new TrouserWash();
            x.cloth(100, 80, 0);
            x.machine(1);
            x.lot(0, 1, 0, wish[0], wish[1], 0, 0);
            x.load(0, 0);
            x.days(1);
            Check.is("without one", x.known(0, 0, 1), 0);
            for (int shade : new int[] {wish[0] - 1, wish[0], wish[1], wish[1] + 1, 0, 255}) {
                if (shade >= 0 && shade <= 255) {
                    x.measure(0, 0, shade);
                    int due = shade > wish[1] ? 3 : shade < wish[0] ? 1 : 2;
                    Check.is(shade + " of " + wish[0] + " to " + wish[1], x.known(0, 0, 1), due);
                }
            }
        }
    }

    private static void notOfTheLot() {
        TrouserWash x = washed(3);
        Check.house(x, "pack 1;again 1 times with wash 1");
        measureAll(x, 0, 111, 100);
        x.again(0);
        x.deliver(0, 1);
        led(x, 0, 12, 1);
        Check.is("one that went to a new LOT", x.known(0, 0, 1), 3);
        Check.is("one that was delivered", x.known(0, 1, 1), 2);
        Check.is("one that is still of it", x.known(0, 2, 1), 0);
        Check.is("a day ahead of its MEASURE", x.known(0, 0, 0), 0);
        Check.is("measured again", x.measure(0, 0, 89), 2);
        Check.is("it is known", x.known(0, 0, 1), 1);
        Check.is("measured again", x.measure(0, 1, 111), 3);
        Check.is("it is known", x.known(0, 1, 1), 3);
        Check.is("but not of it", x.again(0), -1);
        sorted(x, 0, 1, 0, 0, 0);
    }

    private static void stillOfIt() {
        TrouserWash x = washed(4);
        Check.house(x, "pack 1;again 1 times with wash 1");
        led(x, 0, 11, 4, 12, 4, 13, 0);
        measureAll(x, 0, 111, 100, 89);
        led(x, 0, 12, 4);
        x.again(0);
        led(x, 0, 11, 4, 12, 3, 13, 0);
        x.deliver(0, 1);
        led(x, 0, 11, 4, 12, 2, 13, 1);
        sorted(x, 0, 1, 1, 0, 0);
        x.measure(0, 2, 90);
        x.measure(0, 3, 90);
        x.deliver(0, 2);
        led(x, 0, 11, 4, 12, 0, 13, 3);
        sorted(x, 0, 0, 0, 0, 0);
        led(x, 1, 11, 1, 12, 1, 13, 0);
    }

    private static void soManyTimes() {
        for (int times : new int[] {0, 1, 5}) {
            TrouserWash x = washed(2);
            Check.house(x, "again " + times + " times with wash 1");
            for (int lot = 0; lot < times; lot++) {
                x.measure(lot, 0, 111);
                Check.is("time " + (lot + 1) + " of " + times, x.again(lot), lot + 1);
                x.load(lot + 1, 0);
                x.days(1);
            }
            x.measure(times, 0, 111);
            Check.is("no time more than " + times, x.again(times), -1);
            led(x, times, 12, times == 0 ? 2 : 1);
            if (times > 0) {
                x.measure(0, 1, 111);
                Check.is("another piece of the first LOT", x.again(0), times + 1);
            }
        }
    }

    private static void allDarkOnes() {
        TrouserWash x = washed(6);
        Check.house(x, "again 1 times with wash 1");
        Check.is("none is known", x.again(0), -1);
        measureAll(x, 0, 110, 89, 111, 255, 111);
        x.days(1);
        x.measure(0, 4, 110);
        x.measure(0, 0, 111);
        Check.is("pieces 0, 2 and 3", x.again(0), 1);
        led(x, 1, 10, 0, 11, 3, 12, 3);
        led(x, 0, 11, 6, 12, 3);
        sorted(x, 0, 1, 1, 1, 0);
        sorted(x, 1, 3, 0, 0, 0);
        Check.is("those are gone", x.again(0), -1);
        x.measure(0, 3, 255);
        Check.is("though one is measured again", x.again(0), -1);
        Check.house(x, "again 1 times with wash 1;pack 1");
        Check.is("one is delivered", x.deliver(0, 1), 0);
        x.measure(0, 4, 255);
        Check.is("that one goes no more", x.again(0), -1);
        x.measure(0, 5, 111);
        Check.is("one alone", x.again(0), 2);
        led(x, 2, 5, 111, 6, 111, 10, 0, 11, 1);
        led(x, 0, 12, 1, 13, 1);
        Edge.numbered("piece of the new LOT", 3, n -> x.known(1, n, 2));
    }

    private static void theSame() {
        TrouserWash x = new TrouserWash();
        x.cloth(1, 1, 1);
        x.cloth(200, 80, 0);
        x.machine(60);
        x.lot(1, 2, 4, 90, 110, 70, 3);
        x.load(0, 0);
        x.days(1);
        Check.house(x, "again 1 times with stone 20;pack 1");
        measureAll(x, 0, 130, 131);
        x.again(0);
        led(x, 1, 2, 0, 3, 1, 15, 1);
        Check.house(x, "again 1 times with wash 1;pack 1");
        x.lot(0, 1, 2, 0, 255, 0, 0);
        x.load(2, 0);
        x.load(1, 0);
        x.days(1);
        Check.is("KIND", x.works(0, 3), 4);
        led(x, 1, 0, 3, 2, 1, 5, 107, 6, 111, 7, 58, 8, 60);
        int[][] due = {{89, 1}, {90, 2}, {110, 2}, {111, 3}, {110, 2}};
        for (int[] d : due) {
            x.measure(1, 0, d[0]);
            Check.is("WISH with " + d[0], x.known(1, 0, 2), d[1]);
        }
        x.measure(1, 1, 110);
        Check.is("of the other CLOTH", x.ready(0), 0);
        x.days(1);
        Check.is("on its DUE", x.deliver(1, 1), 0);
        x.days(1);
        Check.is("behind its DUE", x.deliver(1, 1), 1);
        dueIsOver();
    }

    /** DUE is 2, the new LOT comes on day 4 and is delivered on day 5. */
    private static void dueIsOver() {
        TrouserWash x = washed(2);
        Check.house(x, "again 1 times with wash 1;pack 1");
        x.days(3);
        x.measure(0, 0, 111);
        x.load(x.again(0), 0);
        x.days(1);
        x.measure(1, 0, 110);
        Check.is("the same DUE, though it is over", x.deliver(0, 1), 1);
        Check.is("it was of the new LOT", x.led(1, 13), 1);
    }

    private static void lookBegins() {
        TrouserWash x = new TrouserWash();
        x.cloth(200, 80, 3);
        x.machine(60);
        Check.house(x, "again 1 times with bleach 1");
        String[] recipes = {"bleach 4", "bleach 4;rinse"};
        for (int i = 0; i < 2; i++) {
            Check.recipe(x, recipes[i]);
            x.lot(0, 4, 0, 90, 110, 50, 7);
            x.load(2 * i, 0);
            x.days(1);
            measureAll(x, 2 * i, 120, 110, 255, 111);
            x.again(2 * i);
            led(x, 2 * i + 1, 5, 111, 6, 255, 7, 76, 8, 80, 9, 1 - i, 14, 0);
            x.load(2 * i + 1, 0);
            x.days(1);
            led(x, 2 * i + 1, 5, 111, 6, 255, 7, 75, 8, 80, 9, 1);
        }
        TrouserWash y = washed(1);
        Check.house(y, "again 1 times with wash 1");
        y.measure(0, 0, 111);
        y.again(0);
        led(y, 1, 5, 111, 6, 111, 7, 80, 8, 80, 9, 0);
    }

    private static void goneFromTheOld() {
        TrouserWash x = washed(2);
        Check.house(x, "again 1 times with wash 1;pack 1");
        measureAll(x, 0, 111, 100);
        Check.is("again", x.again(0), 1);
        led(x, 0, 12, 1);
        sorted(x, 0, 0, 0, 1, 0);
        Check.is("its MEASURE stays", x.known(0, 0, 1), 3);
        Check.is("and is counted", x.count(14), 2);
        led(x, 1, 0, 0, 1, -1, 4, -1);
        Check.state("it is not WASHED", () -> x.measure(1, 0, 100));
        x.days(1);
        led(x, 1, 0, 0);
        x.measure(0, 0, 100);
        Check.is("nor ready by the old LOT", x.ready(0), 1);
        Check.is("it may be LOADED", x.load(1, 0), true);
        x.days(1);
        led(x, 1, 0, 3, 4, 3);
        Check.is("and measured", x.measure(1, 0, 100), 3);
        Check.is("and be ready", x.ready(0), 2);
    }

    private static void goodOnes() {
        Edge.bounds("packs", 1, 20, n -> {
            TrouserWash x = washed(20);
            Check.house(x, "pack 1");
            measureAll(x, 0, new int[] {90, 91, 92, 93, 94, 95, 96, 97, 98, 99, 100, 101, 102, 103, 104, 105, 106, 107,
                108, 110});
            Check.is("DELIVERY of " + n, x.deliver(0, n), 0);
            Check.is("delivered", x.led(0, 13), n);
            return n;
        });
        TrouserWash x = washed(5, 1);
        x.cloth(100, 80, 0);
        x.lot(0, 1, 0, 90, 110, 0, 0);
        Check.house(x, "pack 1;again 1 times with wash 1");
        measureAll(x, 0, 89, 90, 110, 111);
        Check.is("90 and 110", x.ready(0), 2);
        Check.is("of the other CLOTH", x.ready(1), 0);
        x.measure(1, 0, 100);
        Check.is("of the other LOT too", x.ready(0), 3);
        x.again(0);
        x.measure(0, 3, 100);
        Check.is("not one that went to a new LOT", x.ready(0), 3);
        x.days(1);
        x.measure(0, 1, 89);
        Check.is("not one that is LIGHT TODAY", x.ready(0), 2);
        x.deliver(0, 1);
        Check.is("not one that was delivered", x.ready(0), 1);
    }

    private static void inOrder() {
        TrouserWash x = washed(3, 3);
        Check.house(x, "pack 2;band 0");
        measureAll(x, 1, 100, 95, 100);
        measureAll(x, 0, 100, 100, 95);
        x.deliver(0, 1);
        led(x, 0, 13, 1);
        led(x, 1, 13, 1);
        x.deliver(0, 1);
        led(x, 0, 13, 3);
        led(x, 1, 13, 1);
        TrouserWash y = washed(3, 3);
        Check.house(y, "pack 2;band 0");
        measureAll(y, 1, 100, 100, 100);
        y.deliver(0, 1);
        y.measure(1, 0, 111);
        y.measure(1, 1, 111);
        sorted(y, 1, 0, 0, 1, 0);
        y.measure(1, 2, 111);
        sorted(y, 1, 0, 0, 0, 1);
    }

    private static void asManyPieces() {
        for (int pack : new int[] {1, 2, 19, 20}) {
            TrouserWash x = washed(60);
            Check.house(x, "pack " + pack + ";band 0");
            for (int i = 0; i < pack - 1; i++) {
                x.measure(0, i, 100);
            }
            Check.is("one too few for " + pack, x.ready(0), 0);
            x.measure(0, 59, 100);
            Check.is("just a pack of " + pack, x.ready(0), 1);
            Check.is("DELIVERY", x.deliver(0, 1), 0);
            led(x, 0, 13, pack, 12, 60 - pack);
            Check.is("none is left", x.ready(0), 0);
        }
        TrouserWash x = washed(5);
        measureAll(x, 0, 100, 100, 100, 100);
        Check.is("4 of 5 at first", x.ready(0), 0);
        x.measure(0, 4, 100);
        Check.is("5 of 5 at first", x.ready(0), 1);
    }

    private static void band() {
        int[][] cases = {{0, 100, 100, 1}, {0, 100, 101, 0}, {4, 100, 104, 1}, {4, 100, 105, 0}, {20, 90, 110, 1},
                {19, 90, 110, 0}, {50, 90, 110, 1}};
        for (int[] c : cases) {
            TrouserWash x = washed(3);
            Check.house(x, "pack 3;band " + c[0]);
            measureAll(x, 0, c[1], c[2], c[1]);
            Check.is(c[1] + " to " + c[2] + " for band " + c[0], x.ready(0), c[3]);
        }
        TrouserWash steps = washed(3);
        measureAll(steps, 0, 100, 102, 104);
        Check.house(steps, "pack 3;band 3");
        Check.is("not from one to the next", steps.ready(0), 0);
        Check.house(steps, "pack 3;band 4");
        Check.is("from the first to the last", steps.ready(0), 1);
        TrouserWash x = washed(7);
        Check.house(x, "pack 2;band 2");
        measureAll(x, 0, 90, 93, 95, 97, 99, 103, 105);
        Check.is("90 by; 93 95; 97 99; 103 105", x.ready(0), 3);
        x.deliver(0, 1);
        Check.is("90 by; 97 99; 103 105", x.ready(0), 2);
        x.deliver(0, 2);
        led(x, 0, 12, 1);
        x.measure(0, 0, 111);
        sorted(x, 0, 0, 0, 0, 1);
        TrouserWash ends = new TrouserWash();
        ends.cloth(100, 80, 0);
        ends.machine(60);
        ends.lot(0, 4, 0, 0, 255, 0, 2);
        ends.load(0, 0);
        ends.days(1);
        Check.house(ends, "pack 2;band 50");
        measureAll(ends, 0, 0, 255, 204, 50);
        Check.is("0 50; 204 by; 255 by", ends.ready(0), 1);
        ends.measure(0, 2, 205);
        Check.is("0 50; 205 255", ends.ready(0), 2);
    }

    private static void firstPacks() {
        TrouserWash x = washed(6);
        Check.house(x, "pack 2;band 1");
        measureAll(x, 0, 100, 91, 105, 106, 101, 90);
        Check.is("4 of 3", x.deliver(0, 4), -1);
        led(x, 0, 12, 6, 13, 0);
        Check.is("nothing is counted", x.count(16), 0);
        Check.is("1 of 3", x.deliver(0, 1), 0);
        led(x, 0, 12, 4, 13, 2);
        x.measure(0, 1, 111);
        x.measure(0, 5, 111);
        sorted(x, 0, 0, 0, 4, 0);
        Check.is("2 of 2", x.deliver(0, 2), 0);
        led(x, 0, 12, 0, 13, 6);
        Check.is("1 of 0", x.deliver(0, 1), -1);
        Check.is("packs", x.count(16), 3);
    }

    private static void late() {
        for (int due : new int[] {0, 1, 2, 3, 400}) {
            TrouserWash x = new TrouserWash();
            x.cloth(100, 80, 0);
            x.machine(1);
            x.lot(0, 1, 0, 90, 110, 0, due);
            x.load(0, 0);
            x.days(2);
            x.measure(0, 0, 100);
            Check.house(x, "pack 1");
            Check.is("DUE " + due + " on day 2", x.deliver(0, 1), due < 2 ? 1 : 0);
            Check.is("counted", x.count(17), due < 2 ? 1 : 0);
        }
        TrouserWash x = new TrouserWash();
        x.cloth(100, 80, 0);
        x.machine(60);
        x.lot(0, 3, 0, 90, 110, 0, 1);
        x.lot(0, 2, 0, 90, 110, 0, 2);
        x.load(0, 0);
        x.load(1, 0);
        x.days(2);
        measureAll(x, 0, 100, 100, 100);
        measureAll(x, 1, 100, 100);
        Check.is("three of five", x.deliver(0, 1), 3);
        Check.is("counted", x.count(17), 3);
        x.lot(0, 5, 0, 90, 110, 0, 2);
        x.load(2, 0);
        x.days(1);
        measureAll(x, 2, 100, 100, 100, 100, 100);
        Check.is("five of five", x.deliver(0, 1), 5);
        Check.is("counted with those before", x.count(17), 8);
        for (int i = 0; i < 6; i++) {
            x.days(60);
        }
        x.lot(0, 1, 0, 90, 110, 0, 400);
        x.load(3, 0);
        x.days(60);
        x.measure(3, 0, 100);
        Check.house(x, "pack 1");
        Check.is("on the last day", x.deliver(0, 1), 0);
    }

    private static void mostMeasures() {
        TrouserWash x = washed(2);
        for (int i = 0; i < 249; i++) {
            x.measure(0, 0, 100);
        }
        Check.is("the 250th", x.measure(0, 0, 89), 249);
        Check.is("is told", x.known(0, 0, 1), 1);
        Check.is("the 251st", x.measure(0, 0, 111), -1);
        Check.is("is not told", x.known(0, 0, 1), 1);
        Check.is("the 251st of another piece", x.measure(0, 1, 100), -1);
        Check.is("is not told", x.known(0, 1, 1), 0);
        Check.is("nor counted", x.count(14), 250);
        Check.is("nor ODD", x.count(15), 1);
        Check.argument("SHADE 256, with 250", () -> x.measure(0, 0, 256));
        Check.argument("SHADE -1, with 250", () -> x.measure(0, 0, -1));
        Check.index("no such piece, with 250", () -> x.measure(0, 2, 0));
    }

    private static void knownAnswers() {
        TrouserWash x = washed(4);
        measureAll(x, 0, 89, 90, 111);
        int[] due = {1, 2, 3, 0};
        for (int piece = 0; piece < 4; piece++) {
            Check.is("piece " + piece, x.known(0, piece, 1), due[piece]);
            Check.is("piece " + piece + " on day 0", x.known(0, piece, 0), 0);
        }
        Edge.numbered("piece", 4, n -> x.known(0, n, 1));
        Edge.numbered("LOT", 1, n -> x.known(n, 0, 1));
        x.lot(0, 2, 0, 0, 255, 0, 0);
        Check.is("of one that WAITS", x.known(1, 1, 1), 0);
        Check.index("of one that WAITS, no such piece", () -> x.known(1, 2, 1));
    }

    private static void sortedWhats() {
        TrouserWash x = washed(60);
        measureAll(x, 0, 89, 90, 110, 111, 111, 111);
        sorted(x, 0, 54, 1, 2, 3);
        Check.is("on day 0", x.sorted(0, 0, 0), 60);
        Check.is("on day 0, GOOD", x.sorted(0, 0, 2), 0);
        Check.is("on the least day", x.sorted(0, Integer.MIN_VALUE, 0), 60);
        Check.is("on the greatest day", x.sorted(0, Integer.MAX_VALUE, 3), 3);
        Check.house(x, "again 1 times with wash 1;pack 2;band 50");
        x.again(0);
        sorted(x, 0, 54, 1, 2, 0);
        x.deliver(0, 1);
        sorted(x, 0, 54, 1, 0, 0);
        Edge.whats("what", 3, n -> x.sorted(0, 1, n));
        Edge.numbered("LOT", 2, n -> x.sorted(n, 1, 0));
    }

    private static void noAgain() {
        TrouserWash x = washed(2);
        x.measure(0, 0, 110);
        Check.house(x, "again 1 times with wash 1");
        Check.is("no piece is DARK", x.again(0), -1);
        x.measure(0, 0, 111);
        Check.house(x, "again 0 times with wash 1");
        Check.is("it may not be", x.again(0), -1);
        led(x, 0, 12, 2);
        Check.is("no LOT came", x.count(12), 1);
        Check.house(x, "again 1 times with wash 1");
        for (int i = 1; i < 39; i++) {
            x.lot(0, 1, 0, 0, 255, 0, 0);
        }
        Check.is("there are 39", x.again(0), 39);
        led(x, 0, 12, 1);
        x.measure(0, 1, 111);
        Check.is("there are 40", x.again(0), -1);
        led(x, 0, 12, 1);
        sorted(x, 0, 0, 0, 0, 1);
        Check.is("how many", x.count(12), 40);
        Edge.bounds("LOT that is WASHED", 0, 0, IndexOutOfBoundsException.class, n -> x.again(n == 1 ? 40 : n));
        Check.state("one that WAITS", () -> x.again(39));
    }

    private static void noDelivery() {
        TrouserWash x = washed(4);
        Check.house(x, "pack 2;band 1");
        measureAll(x, 0, 100, 101, 102);
        Check.argument("0 packs", () -> x.deliver(0, 0));
        Check.argument("21 packs", () -> x.deliver(0, 21));
        Check.argument("-1 packs", () -> x.deliver(0, -1));
        Check.is("2 of 1", x.deliver(0, 2), -1);
        led(x, 0, 12, 4, 13, 0);
        Check.is("packs", x.count(16), 0);
        x.days(9);
        Check.is("20 of 1", x.deliver(0, 20), -1);
        Check.is("LATE ones", x.count(17), 0);
        Check.is("1 of 1", x.deliver(0, 1), 2);
        Check.is("LATE ones", x.count(17), 2);
        Check.is("1 of 0", x.deliver(0, 1), -1);
        Check.is("packs", x.count(16), 1);
        Edge.bounds("CLOTH", 0, 0, IndexOutOfBoundsException.class, n -> x.deliver(n, 1));
    }

    private static void readyPacks() {
        TrouserWash x = washed(60, 3);
        Edge.numbered("CLOTH", 1, n -> x.ready(n));
        Check.is("none is measured", x.ready(0), 0);
        Check.house(x, "pack 1");
        for (int i = 0; i < 60; i++) {
            x.measure(0, i, 90 + i % 21);
        }
        Check.is("more than one DELIVERY may be", x.ready(0), 60);
        Check.is("asking changes nothing", x.ready(0), 60);
        Check.is("twenty are delivered", x.deliver(0, 20), 0);
        Check.is("the others are ready", x.ready(0), 40);
        Check.house(x, "pack 20;band 50");
        Check.is("two of twenty", x.ready(0), 2);
        x.measure(1, 0, 90);
        Check.is("one more is none more", x.ready(0), 2);
        Check.is("both are delivered", x.deliver(0, 2), 0);
        Check.is("none is left", x.ready(0), 0);
    }
}
