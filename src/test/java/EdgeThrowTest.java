import java.util.ArrayList;
import java.util.List;

/** Promise 43, the paragraph on exceptions, and the 512 calls: a test for each sentence that names a boundary case. */
final class EdgeThrowTest {
    public static void main(String[] args) {
        Edge.of("An object is used for at most 512 calls after it has been made", EdgeThrowTest::lastCall);
        Edge.of("Of several exceptions the one told first is thrown", EdgeThrowTest::toldFirst);
        Edge.of("a call that throws changes nothing but the TAPE, where it is used up.", EdgeThrowTest::changesNothing);
        Edge.of("IndexOutOfBoundsException: there is no such CLOTH, KIND, TANK, MACHINE, LOT, piece of it, PANEL.",
                EdgeThrowTest::noSuchOne);
        Edge.of("IllegalStateException: the LOT is not WASHED.", EdgeThrowTest::notWashed);
        Edge.of("0 CLOTHS, 1 BATHS, 2 BATCHES, 3 TANKS, 4 FRESH, 5 RAN OFF, 6 DIRT in all TANKS, 7 DIRT that was drawn "
                + "by draw(), 8 that ran off, 9 GARMENTS, 10 TODAY, 11 MACHINES, 12 LOTS, 13 that are WASHED, 14 "
                + "MEASURES, 15 ODD ones, 16 packs delivered, 17 LATE pieces, 18 RULES.", EdgeThrowTest::counts);
        Edge.of("NONE for another what.", EdgeThrowTest::anotherWhat);
        Check.done("EdgeThrowTest");
    }

    /** What can grow most with each call, up to the 512th. */
    private static void lastCall() {
        TrouserWash x = new TrouserWash();
        for (int i = 1; i <= 511; i++) {
            x.draw(1000, 0);
        }
        Check.is("FRESH, the 512th call", x.count(4), 511000);
        TrouserWash y = new TrouserWash();
        y.tank(1000);
        for (int i = 2; i <= 510; i++) {
            y.pour(0, 1, 100000);
        }
        Check.is("DIRT, the 511th call", y.has(0, 2), 50900000);
        Check.is("more than is borne, the 512th call", y.draw(1000, 100), 1000);
        TrouserWash z = new TrouserWash();
        z.tank(1);
        for (int i = 2; i <= 511; i++) {
            z.pour(0, 1000, 100000);
        }
        Check.is("DIRT that ran off, the 512th call", z.count(8), 509 * 100000 + 99900);
        TrouserWash w = new TrouserWash();
        w.pattern(1, 1);
        w.heat(0, 0, 9);
        for (int i = 3; i <= 511; i++) {
            w.burn(0, 0, 0);
        }
        Check.is("burns, the 512th call", w.burned(0, 0, 0), 99);
    }

    private static void toldFirst() {
        TrouserWash x = full();
        Check.argument("cloth: a number ahead of 6", () -> x.cloth(256, 0, 0));
        Check.full("cloth: 6", () -> x.cloth(255, 0, 0));
        Check.argument("tank: HOLD ahead of 5", () -> x.tank(0));
        Check.full("tank: 5", () -> x.tank(1));
        Check.argument("machine: HOLDS ahead of 4", () -> x.machine(61));
        Check.full("machine: 4", () -> x.machine(60));
        Check.index("look: CLOTH ahead of baths and what", () -> x.look(6, -1, 5));
        Check.argument("look: baths ahead of what", () -> x.look(5, -1, 5));
        Check.element("look: what", () -> x.look(5, 0, 5));
        Check.index("meets: CLOTH ahead of the WISH", () -> x.meets(6, 1, 0, 0));
        Check.argument("meets: the WISH", () -> x.meets(5, 1, 0, 0));
        Check.index("cheapest: CLOTH ahead of most", () -> x.cheapest(-1, 0, 0, 0, 7));
        Check.argument("cheapest: most", () -> x.cheapest(0, 0, 0, 0, 7));
        Check.index("bath: CLOTH ahead of most", () -> x.bath(-1, 0, 0, 0, 7, 0));
        Check.argument("bath: most", () -> x.bath(0, 0, 0, 0, 7, 0));
        Check.index("carry: from ahead of litres", () -> Edge.did(() -> x.carry(6, 0, 101)));
        Check.index("carry: to ahead of litres", () -> Edge.did(() -> x.carry(0, 6, 101)));
        Check.index("carry: KIND ahead of both are one", () -> Edge.did(() -> x.carry(6, 6, 1)));
        Check.argument("carry: litres", () -> Edge.did(() -> x.carry(0, 5, 101)));
        Check.index("pour: TANK ahead of litres", () -> x.pour(5, 0, 0));
        Check.argument("pour: litres", () -> x.pour(4, 0, 0));
        Check.index("has: TANK ahead of what", () -> x.has(5, 3));
        Check.element("has: what", () -> x.has(4, 3));
        Check.index("lot: CLOTH ahead of all", () -> x.lot(6, 0, 0, 0, 0, 0, 0));
        Check.index("lot: KIND ahead of pieces", () -> x.lot(0, 0, 6, 0, 0, 0, 0));
        Check.argument("lot: DUE ahead of 40", () -> x.lot(0, 1, 0, 0, 0, 0, 401));
        Check.full("lot: 40", () -> x.lot(0, 1, 0, 0, 0, 0, 400));
        Check.index("led: LOT ahead of what", () -> x.led(40, 16));
        Check.element("led: what", () -> x.led(39, 16));
        Check.index("works: MACHINE ahead of what", () -> x.works(4, 5));
        Check.element("works: what", () -> x.works(3, 5));
        Check.index("measure: LOT ahead of all", () -> x.measure(40, 0, 256));
        Check.index("measure: piece ahead of not WASHED", () -> x.measure(1, 2, 256));
        Check.state("measure: not WASHED ahead of SHADE", () -> x.measure(1, 1, 256));
        Check.argument("measure: SHADE", () -> x.measure(0, 1, 256));
        Check.index("sorted: LOT ahead of what", () -> x.sorted(40, 0, 4));
        Check.element("sorted: what", () -> x.sorted(39, 0, 4));
        Check.index("again: LOT", () -> x.again(40));
        Check.state("again: not WASHED", () -> x.again(39));
        Check.index("deliver: CLOTH ahead of packs", () -> x.deliver(6, 0));
        Check.argument("deliver: packs", () -> x.deliver(5, 0));
        Check.index("burn: PANEL ahead of the offset", () -> Edge.did(() -> x.burn(2, 6, 4)));
        Check.argument("burn: the offset", () -> Edge.did(() -> x.burn(1, 6, 4)));
        Check.index("burned: PANEL ahead of the place", () -> x.burned(2, 12, 8));
        Check.argument("burned: the place", () -> x.burned(1, 12, 8));
    }

    /** 6 CLOTHS, 5 TANKS, 4 MACHINES, 40 LOTS of 2 pieces, of which the first is WASHED and measured. */
    private static TrouserWash full() {
        TrouserWash x = new TrouserWash();
        for (int i = 0; i < 6; i++) {
            x.cloth(100 + i, 80, i);
        }
        for (int i = 0; i < 5; i++) {
            x.tank(100 + i);
        }
        for (int i = 0; i < 4; i++) {
            x.machine(10 + i);
        }
        for (int i = 0; i < 40; i++) {
            x.lot(0, 2, i % 6, 90, 110, 0, 3);
        }
        x.load(0, 0);
        x.days(1);
        x.load(1, 0);
        x.measure(0, 0, 100);
        x.pour(1, 50, 9);
        x.draw(7, 50);
        x.batch(2);
        x.batch(3);
        x.carry(2, 3, 5);
        x.carry(3, 2, 6);
        x.garment(40);
        x.garment(60);
        Check.recipe(x, "wash 5;bleach 2");
        Check.house(x, "pack 1;again 1 times with stone 2;band 9");
        x.pattern(2, 1);
        x.heat(1, 0, 7);
        x.burn(0, 1, 0);
        return x;
    }

    /** Every call that throws, one each on a new object: what it is asked for then is as if it had not been. */
    private static void changesNothing() {
        List<Call> calls = new ArrayList<>();
        calls.add(x -> x.cloth(256, 0, 0));
        calls.add(x -> x.cloth(1, 1, 1));
        calls.add(x -> x.look(0, -1, 0));
        calls.add(x -> x.look(0, 0, 5));
        calls.add(x -> x.meets(0, 5, 4, 0));
        calls.add(x -> x.cheapest(0, 0, 255, 0, 7));
        calls.add(x -> x.bath(0, 0, 255, 0, -1, 0));
        calls.add(x -> Edge.did(() -> x.carry(2, 3, 101)));
        calls.add(x -> Edge.did(() -> x.carry(2, 2, 9)));
        calls.add(x -> Edge.did(() -> x.carry(3, 6, 9)));
        calls.add(x -> x.batch(6));
        calls.add(x -> x.tank(1001));
        calls.add(x -> x.tank(9));
        calls.add(x -> x.draw(1001, 100));
        calls.add(x -> x.draw(9, 101));
        calls.add(x -> x.pour(1, 1001, 0));
        calls.add(x -> x.pour(1, 9, 100001));
        calls.add(x -> x.pour(5, 9, 9));
        calls.add(x -> x.has(0, 3));
        calls.add(x -> x.garment(256));
        calls.add(x -> x.spread(11));
        calls.add(x -> x.packs(21, 0, false));
        calls.add(x -> x.packs(1, -1, true));
        calls.add(x -> x.tells(18));
        calls.add(x -> x.machine(61));
        calls.add(x -> x.machine(9));
        calls.add(x -> x.lot(0, 61, 0, 0, 255, 0, 0));
        calls.add(x -> x.lot(0, 1, 0, 0, 255, 0, 0));
        calls.add(x -> x.load(1, 4));
        calls.add(x -> x.load(40, 0));
        calls.add(x -> x.days(61));
        calls.add(x -> x.days(-1));
        calls.add(x -> x.led(0, 16));
        calls.add(x -> x.works(0, 5));
        calls.add(x -> x.measure(0, 2, 9));
        calls.add(x -> x.measure(1, 0, 9));
        calls.add(x -> x.measure(0, 0, 256));
        calls.add(x -> x.known(0, 2, 1));
        calls.add(x -> x.sorted(0, 1, 4));
        calls.add(x -> x.again(1));
        calls.add(x -> x.deliver(0, 0));
        calls.add(x -> x.deliver(0, 21));
        calls.add(x -> x.deliver(6, 1));
        calls.add(x -> x.ready(6));
        calls.add(x -> Edge.did(() -> x.pattern(7, 1)));
        calls.add(x -> Edge.did(() -> x.pattern(1, 0)));
        calls.add(x -> x.heat(1, 0, 10));
        calls.add(x -> x.heat(2, 0, 1));
        calls.add(x -> Edge.did(() -> x.burn(0, 6, 0)));
        calls.add(x -> Edge.did(() -> x.burn(2, 0, 0)));
        calls.add(x -> x.burned(0, 12, 0));
        calls.add(x -> x.seam(8));
        String before = told(fed(), true);
        for (int i = 0; i < calls.size(); i++) {
            TrouserWash x = fed();
            Check.is("call " + i, throwsBy(calls.get(i), x), true);
            Check.is("all that is told after call " + i, told(x, true), before);
        }
        tapeIsUsedUp();
    }

    private interface Call {
        Object of(TrouserWash x);
    }

    private static TrouserWash fed() {
        TrouserWash x = full();
        Check.put(x, "rinse;rinse");
        return x;
    }

    private static boolean throwsBy(Call call, TrouserWash x) {
        try {
            call.of(x);
            return false;
        } catch (RuntimeException e) {
            return true;
        }
    }

    private static void tapeIsUsedUp() {
        String before = told(full(), false);
        for (int i = 0; i < 2; i++) {
            TrouserWash x = full();
            Check.put(x, "wash 3;pack 4");
            int which = i;
            Check.argument("a wrong text", () -> which == 0 ? x.recipe() : x.house());
            Check.is("the TAPE is used up", x.end(1), false);
            Check.is("its fault", x.fault(), i == 0 ? 7 : 0);
            Check.is("all that is told", told(x, false), before);
        }
        TrouserWash x = fed();
        Check.argument("a call that does not read", () -> x.tank(0));
        Check.is("leaves the TAPE", x.end(11), true);
        Check.is("as it was", x.recipe(), 2);
    }

    /** What the object answers to all that asks and changes nothing but, at the last, the TAPE. */
    private static String told(TrouserWash x, boolean tape) {
        StringBuilder all = new StringBuilder();
        for (int what = 0; what <= 18; what++) {
            all.append(x.count(what)).append(' ');
        }
        for (int what = 0; what <= 17; what++) {
            all.append(x.tells(what)).append(' ');
        }
        for (int i = 0; i < 5; i++) {
            all.append(x.has(i, 0)).append(' ').append(x.has(i, 1)).append(' ').append(x.has(i, 2)).append(' ');
            all.append(x.look(i, 20, 0)).append(' ').append(x.look(i, 20, 4)).append(' ');
        }
        for (int i = 0; i < 3; i++) {
            for (int what = 0; what <= 15; what++) {
                all.append(x.led(i, what)).append(' ');
            }
            for (int what = 0; what <= 4; what++) {
                all.append(x.works(i, what)).append(' ');
            }
        }
        all.append(x.known(0, 0, 1)).append(x.known(0, 1, 1)).append(x.sorted(0, 1, 2)).append(x.ready(0)).append(' ');
        all.append(x.order()).append(' ').append(x.spread(1)).append(' ').append(x.packs(2, 20, false)).append(' ');
        all.append(x.cost()).append(' ').append(x.seam(0)).append(' ').append(x.shift()).append(' ');
        all.append(x.burned(0, 0, 0)).append(x.burned(0, 1, 0)).append(x.burned(1, 0, 0)).append(' ');
        x.burn(1, 0, 0);
        all.append(x.burned(1, 1, 0)).append(' ').append(x.heat(1, 0, 7)).append(' ');
        if (tape) {
            all.append(x.fault()).append(' ').append(x.end(12)).append(x.end(11)).append(x.recipe());
        }
        return all.toString();
    }

    private static void noSuchOne() {
        TrouserWash x = full();
        Edge.numbered("CLOTH of look", 6, n -> x.look(n, 0, 0));
        Edge.numbered("CLOTH of meets", 6, n -> x.meets(n, 0, 0, 0));
        Edge.numbered("CLOTH of cheapest", 6, n -> x.cheapest(n, 0, 0, 0, 0));
        Edge.numbered("CLOTH of bath", 6, n -> x.bath(n, 0, 0, 0, 0, 0));
        Edge.numbered("CLOTH of deliver", 6, n -> x.deliver(n, 20));
        Edge.numbered("CLOTH of ready", 6, n -> x.ready(n));
        Edge.numbered("KIND of batch", 6, n -> x.batch(n));
        Edge.numbered("KIND from", 6, n -> Edge.did(() -> x.carry(n, n == 0 ? 1 : 0, 0)));
        Edge.numbered("KIND to", 6, n -> Edge.did(() -> x.carry(n == 0 ? 1 : 0, n, 0)));
        Edge.numbered("TANK of pour", 5, n -> x.pour(n, 1, 0));
        Edge.numbered("TANK of has", 5, n -> x.has(n, 0));
        Edge.numbered("MACHINE of load", 4, n -> x.load(0, n));
        Edge.numbered("MACHINE of works", 4, n -> x.works(n, 0));
        Edge.numbered("LOT of load", 40, n -> x.load(n, 0));
        Edge.numbered("LOT of led", 40, n -> x.led(n, 0));
        Edge.numbered("LOT of known", 40, n -> x.known(n, 0, 0));
        Edge.numbered("LOT of sorted", 40, n -> x.sorted(n, 0, 0));
        Edge.bounds("LOT of measure, one WASHED", 0, 0, IndexOutOfBoundsException.class,
                n -> x.measure(n == 1 ? 40 : n, 0, 100));
        Edge.bounds("LOT of again, one WASHED", 0, 0, IndexOutOfBoundsException.class,
                n -> x.again(n == 1 ? 40 : n));
        Edge.numbered("piece of measure", 2, n -> x.measure(0, n, 100));
        Edge.numbered("piece of known", 2, n -> x.known(0, n, 0));
        Edge.numbered("PANEL of burn", 2, n -> Edge.did(() -> x.burn(n, 0, 0)));
        Edge.numbered("PANEL of burned", 2, n -> x.burned(n, 0, 0));
        TrouserWash empty = new TrouserWash();
        Check.index("CLOTH 0 of none", () -> empty.ready(0));
        Check.index("TANK 0 of none", () -> empty.has(0, 0));
        Check.index("MACHINE 0 of none", () -> empty.works(0, 0));
        Check.index("LOT 0 of none", () -> empty.led(0, 0));
        Check.index("LOT 0 of no LOT, of a CLOTH that is none", () -> empty.lot(0, 1, 0, 0, 255, 0, 0));
    }

    private static void notWashed() {
        TrouserWash x = new TrouserWash();
        x.cloth(100, 80, 0);
        x.machine(1);
        Check.house(x, "minutes wash 60;again 1 times with wash 1");
        Check.recipe(x, "wash 8;wash 1");
        x.lot(0, 1, 0, 0, 50, 0, 0);
        Check.state("WAITING: measure", () -> x.measure(0, 0, 51));
        Check.state("WAITING: again", () -> x.again(0));
        x.load(0, 0);
        Check.state("LOADED: measure", () -> x.measure(0, 0, 51));
        Check.state("LOADED: again", () -> x.again(0));
        x.days(1);
        Check.state("in a MACHINE: measure", () -> x.measure(0, 0, 51));
        Check.state("in a MACHINE: again", () -> x.again(0));
        Check.is("none of them was told", x.count(14), 0);
        x.days(1);
        Check.is("WASHED: measure", x.measure(0, 0, 51), 0);
        Check.is("WASHED: again", x.again(0), 1);
        Check.state("the new one WAITS", () -> x.again(1));
        Check.is("asked for what is known", x.known(1, 0, 9), 0);
        Check.is("asked for how many", x.sorted(1, 9, 0), 1);
        Check.is("of its CLOTH none is ready", x.ready(0), 0);
    }

    /** Each number 0 ahead of what it counts, and as many as came of it behind. */
    private static void counts() {
        TrouserWash x = new TrouserWash();
        for (int what = 0; what <= 18; what++) {
            Check.is("count(" + what + ") of a new object", x.count(what), 0);
        }
        x.cloth(100, 80, 0);
        x.cloth(100, 80, 0);
        Check.recipe(x, "wash 1;wash 1;wash 1");
        for (int i = 0; i < 4; i++) {
            x.batch(0);
        }
        x.tank(10);
        x.tank(1000);
        x.pour(0, 13, 26);
        x.pour(1, 100, 5);
        x.draw(113, 5);
        x.draw(1, 100);
        for (int i = 0; i < 6; i++) {
            x.garment(9);
        }
        x.machine(9);
        x.machine(9);
        x.machine(9);
        x.recipe();
        for (int i = 0; i < 8; i++) {
            x.lot(0, 3, 0, 90, 110, 0, 0);
        }
        for (int i = 0; i < 7; i++) {
            x.load(i, 0);
        }
        x.days(11);
        for (int i = 0; i < 9; i++) {
            x.measure(i / 3, i % 3, i < 5 ? 100 : 101);
        }
        Check.house(x, "pack 2;band 0");
        x.deliver(0, 3);
        Check.recipe(x, "wash 1;wash 1;wash 1");
        int[] due = {2, 3, 4, 2, 14, 3, 20, 5, 6, 6, 11, 3, 8, 7, 9, 4, 3, 6, 2};
        for (int what = 0; what <= 18; what++) {
            Check.is("count(" + what + ")", x.count(what), due[what]);
        }
    }

    private static void anotherWhat() {
        TrouserWash x = full();
        for (int what : new int[] {-1, -2, 19, 20, Integer.MIN_VALUE, Integer.MAX_VALUE}) {
            Check.is("count(" + what + ")", x.count(what), -1);
        }
        Check.is("count(0)", x.count(0), 6);
        Check.is("count(18)", x.count(18), 3);
    }
}
