import java.util.ArrayList;
import java.util.Comparator;
import java.util.List;
import java.util.Random;

/** Parts 3, 5 and 6 of the document written down a second time, plainly, and both asked the same by chance. */
final class ModelTest {
    private static final String[] BATHS = {"wash", "stone", "bleach", "rinse"};

    static final class Bath {
        int kind;
        int n;
    }

    static final class Tank {
        int hold;
        long water;
        long dirt;
    }

    static final class Told {
        int piece;
        int shade;
        int day;
    }

    static final class Batch {
        int number;
        int cloth;
        int pieces;
        int kind;
        int from;
        int to;
        int strength;
        int due;
        List<Bath> recipe = new ArrayList<>();
        List<Told> told = new ArrayList<>();
        List<Integer> still = new ArrayList<>();
        int delivered;
        Batch from0;
        Washer on;
        boolean inside;
        int washed = -1;
        int done;
        int[] look;

        int state() {
            return washed >= 0 ? 3 : inside ? 2 : on != null ? 1 : 0;
        }

        int shade(int piece, int day) {
            int shade = -1;
            for (Told one : told) {
                if (one.piece == piece && one.day <= day) {
                    shade = one.shade;
                }
            }
            return shade;
        }

        int known(int piece, int day) {
            int shade = shade(piece, day);
            return shade == -1 ? 0 : shade < from ? 1 : shade > to ? 3 : 2;
        }

        int times() {
            return from0 == null ? 0 : from0.times() + 1;
        }
    }

    static final class Washer {
        int number;
        int holds;
        List<Batch> queue = new ArrayList<>();
        Batch in;
        int last = -1;
        int minutes;
    }

    static final class Good {
        Batch lot;
        int piece;
        int shade;
    }

    private final Random random;
    private final TrouserWash x = new TrouserWash();
    private final List<int[]> cloths = new ArrayList<>();
    private final List<Tank> tanks = new ArrayList<>();
    private final List<Batch> lots = new ArrayList<>();
    private final List<Washer> washers = new ArrayList<>();
    private final int[][] carry = new int[6][6];
    private List<Bath> recipe = new ArrayList<>();
    private int[] house = {0, 0, 0, 0, -1, -1, -1, -1, 5, 3, 4, 5, 4, 0, 0, 1, 5, 4};
    private int today;
    private long fresh;
    private long ranOff;
    private long dirtOff;
    private long drawn;
    private int measures;
    private int odd;
    private int packs;
    private int late;

    private ModelTest(long seed) {
        random = new Random(seed);
    }

    public static void main(String[] args) {
        long washed = 0;
        long delivered = 0;
        long again = 0;
        for (int run = 0; run < 1500; run++) {
            ModelTest one = new ModelTest(run);
            one.go(run);
            washed += one.x.count(13);
            delivered += one.x.count(16);
            for (Batch lot : one.lots) {
                again += lot.from0 != null && lot.washed >= 0 ? 1 : 0;
            }
        }
        Check.is("many were washed, delivered, washed again", washed > 5000 && delivered > 1000 && again > 500, true);
        System.out.println("washed " + washed + ", packs " + delivered + ", washed again " + again);
        Check.done("ModelTest");
    }

    private int any(int from, int to) {
        return from + random.nextInt(to - from + 1);
    }

    private void go(int run) {
        for (int i = any(1, 3); i > 0; i--) {
            int[] cloth = {any(60, 255), any(40, 255), any(0, 9)};
            Check.is("cloth", x.cloth(cloth[0], cloth[1], cloth[2]), cloths.size());
            cloths.add(cloth);
        }
        for (int i = any(1, 3); i > 0; i--) {
            Washer one = new Washer();
            one.number = washers.size();
            one.holds = any(5, 60);
            Check.is("machine", x.machine(one.holds), one.number);
            washers.add(one);
        }
        for (int i = 0; i < 180; i++) {
            step();
        }
        compareAll(run);
    }

    private void step() {
        int what = any(0, 99);
        if (what < 4) {
            newRecipe();
        } else if (what < 8) {
            newHouse();
        } else if (what < 11) {
            newTank();
        } else if (what < 15) {
            newCarry();
        } else if (what < 22) {
            newLot();
        } else if (what < 32) {
            load();
        } else if (what < 42) {
            days();
        } else if (what < 82) {
            measure();
        } else if (what < 88) {
            again();
        } else if (what < 94) {
            deliver();
        } else if (what < 97) {
            draw();
        } else {
            pour();
        }
    }

    private void newRecipe() {
        recipe = new ArrayList<>();
        StringBuilder text = new StringBuilder();
        for (int i = any(0, 5); i > 0; i--) {
            Bath one = new Bath();
            one.kind = any(0, 3);
            one.n = one.kind == 3 ? 1 : any(1, random.nextInt(4) == 0 ? 20 : 5);
            text.append(recipe.isEmpty() ? "" : ";").append(BATHS[one.kind]);
            text.append(one.kind == 3 ? "" : " " + one.n);
            recipe.add(one);
        }
        Check.is("recipe", Check.recipe(x, text.toString()), recipe.size());
    }

    private void newHouse() {
        house = new int[] {0, 0, 0, 0, -1, -1, -1, -1, 5, 3, 4, 5, 4, 0, 0, 1, 5, 4};
        List<String> rules = new ArrayList<>();
        for (int i = 0; i < 4; i++) {
            if (random.nextBoolean()) {
                house[i] = any(0, 100);
                rules.add("bears " + BATHS[i] + " " + house[i]);
            }
            if (random.nextInt(3) > 0) {
                house[4 + i] = any(0, 4);
                rules.add("pours " + BATHS[i] + " to " + house[4 + i]);
            }
            if (random.nextInt(3) == 0) {
                house[9 + i] = any(1, 60);
                rules.add("minutes " + BATHS[i] + " " + house[9 + i]);
            }
        }
        house[8] = any(1, 20);
        house[13] = any(0, 3);
        house[14] = any(0, 2);
        house[15] = any(1, 20);
        house[16] = any(1, 4);
        house[17] = any(0, 20);
        rules.add("litres " + house[8]);
        rules.add("again " + house[13] + " times with " + BATHS[house[14]] + " " + house[15]);
        rules.add("pack " + house[16]);
        rules.add("band " + house[17]);
        Check.is("house", Check.house(x, String.join(";", rules)), rules.size());
        for (int what = 0; what < 18; what++) {
            Check.is("tells", x.tells(what), house[what]);
        }
    }

    private void newTank() {
        if (tanks.size() < 5) {
            Tank one = new Tank();
            one.hold = any(1, random.nextBoolean() ? 1000 : 80);
            Check.is("tank", x.tank(one.hold), tanks.size());
            tanks.add(one);
        }
    }

    private void newCarry() {
        int from = any(0, 5);
        int to = any(0, 5);
        if (from != to) {
            carry[from][to] = random.nextInt(3) == 0 ? -1 : any(0, 100);
            x.carry(from, to, carry[from][to]);
        }
    }

    private void newLot() {
        if (lots.size() == 40) {
            return;
        }
        Batch one = new Batch();
        one.number = lots.size();
        one.cloth = any(0, cloths.size() - 1);
        one.pieces = any(1, random.nextInt(4) == 0 ? 60 : 6);
        one.kind = any(0, 5);
        one.from = any(0, 150);
        one.to = any(one.from, Math.min(255, one.from + 60));
        one.strength = any(0, 255);
        one.due = any(0, 60);
        one.recipe = new ArrayList<>(recipe);
        int[] cloth = cloths.get(one.cloth);
        one.look = new int[] {cloth[0], cloth[0], cloth[1], cloth[1], 0};
        Check.is("lot", x.lot(one.cloth, one.pieces, one.kind, one.from, one.to, one.strength, one.due), one.number);
        addLot(one);
    }

    private void addLot(Batch one) {
        for (int piece = 0; piece < one.pieces; piece++) {
            one.still.add(piece);
        }
        lots.add(one);
    }

    private Batch anyLot() {
        return lots.isEmpty() ? null : lots.get(any(0, lots.size() - 1));
    }

    private void load() {
        for (Batch one : lots) {
            Washer on = washers.get(any(0, washers.size() - 1));
            boolean due = one.state() == 0 && one.pieces <= on.holds;
            if (random.nextInt(3) > 0) {
                Check.is("load", x.load(one.number, on.number), due);
                if (due) {
                    one.on = on;
                    on.queue.add(one);
                }
            }
        }
    }

    private void days() {
        int n = any(0, 3);
        for (int i = 0; i < n && today < 400; i++) {
            today++;
            for (Washer one : washers) {
                workOneDay(one);
            }
        }
        Check.is("days", x.days(n), today);
    }

    private void workOneDay(Washer one) {
        int left = 480;
        while (true) {
            if (one.in == null) {
                Batch next = null;
                for (Batch lot : one.queue) {
                    if (next == null && (one.last == -1 || carry[one.last][lot.kind] != -1)) {
                        next = lot;
                    }
                }
                if (next == null) {
                    return;
                }
                int litres = one.last == -1 ? 0 : carry[one.last][next.kind];
                if (litres > left) {
                    return;
                }
                left -= litres;
                one.minutes += litres;
                fresh += litres;
                ranOff += litres;
                dirtOff += litres;
                one.queue.remove(next);
                one.in = next;
                one.last = next.kind;
                next.inside = true;
            } else if (one.in.done == one.in.recipe.size()) {
                one.in.washed = today;
                one.in = null;
            } else {
                Bath bath = one.in.recipe.get(one.in.done);
                int minutes = bath.n * house[9 + bath.kind];
                if (minutes > left) {
                    return;
                }
                left -= minutes;
                one.minutes += minutes;
                one.in.done++;
                doBath(one.in, bath);
            }
        }
    }

    private void doBath(Batch lot, Bath bath) {
        int litres = lot.pieces * house[8];
        long dirt = take(litres, house[bath.kind])[1];
        int n = bath.n;
        int hard = cloths.get(lot.cloth)[2];
        int[][] less = {{n, n / 2, 0, 0}, {n + 3, n, n + 2 + 5 * lot.look[4], n + 5 * lot.look[4]},
            {Math.max(0, 3 * n - hard), Math.max(0, 2 * n - hard), n, 0}, {0, 0, 0, 0}};
        for (int i = 0; i < 4; i++) {
            lot.look[i] = Math.max(0, lot.look[i] - less[bath.kind][i]);
        }
        lot.look[4] = bath.kind == 2 ? 1 : bath.kind == 3 ? 0 : lot.look[4];
        int[] soil = {n, 2 * n, 3 * n + 5, 1};
        dirt += (long) lot.pieces * soil[bath.kind];
        int to = house[4 + bath.kind];
        if (to == -1 || to >= tanks.size()) {
            ranOff += litres;
            dirtOff += dirt;
        } else {
            put(tanks.get(to), litres, dirt);
        }
    }

    /** How much was fresh, and the dirt that came along. */
    private long[] take(int n, int bears) {
        List<Tank> borne = new ArrayList<>();
        for (Tank one : tanks) {
            if (one.water > 0 && one.dirt * 100 <= bears * one.water) {
                borne.add(one);
            }
        }
        borne.sort((a, b) -> Long.compare(b.dirt * a.water, a.dirt * b.water));
        long lacks = n;
        long along = 0;
        for (Tank one : borne) {
            long taken = Math.min(lacks, one.water);
            long part = one.dirt * taken / one.water + (one.dirt * taken % one.water == 0 ? 0 : 1);
            one.water -= taken;
            one.dirt -= part;
            lacks -= taken;
            along += part;
        }
        fresh += lacks;
        return new long[] {lacks, along};
    }

    private long put(Tank one, long n, long dirt) {
        long above = Math.max(0, one.water + n - one.hold);
        long part = dirt * above / n + (dirt * above % n == 0 ? 0 : 1);
        one.water += n - above;
        one.dirt += dirt - part;
        ranOff += above;
        dirtOff += part;
        return above;
    }

    private void draw() {
        int n = any(1, 1000);
        int bears = any(0, 100);
        long[] got = take(n, bears);
        drawn += got[1];
        Check.is("draw", (long) x.draw(n, bears), got[0]);
    }

    private void pour() {
        if (!tanks.isEmpty()) {
            int tank = any(0, tanks.size() - 1);
            int n = any(1, 1000);
            int dirt = any(0, random.nextInt(4) == 0 ? 100000 : n);
            long above = put(tanks.get(tank), n, dirt);
            Check.is("pour", (long) x.pour(tank, n, dirt), above);
        }
    }

    private void measure() {
        Batch lot = anyLot();
        if (lot == null) {
            return;
        }
        int piece = any(0, lot.pieces - 1);
        int shade = Math.max(0, Math.min(255, any(lot.from - 10, lot.to + 25)));
        if (lot.washed < 0) {
            Check.state("measure", () -> x.measure(lot.number, piece, shade));
            return;
        }
        Check.is("measure", x.measure(lot.number, piece, shade), measures);
        measures++;
        odd += shade < lot.look[0] || shade > lot.look[1] ? 1 : 0;
        Told told = new Told();
        told.piece = piece;
        told.shade = shade;
        told.day = today;
        lot.told.add(told);
    }

    private void again() {
        Batch lot = anyLot();
        if (lot == null) {
            return;
        }
        if (lot.washed < 0) {
            Check.state("again", () -> x.again(lot.number));
            return;
        }
        List<Integer> dark = new ArrayList<>(lot.still);
        dark.removeIf(piece -> lot.known(piece, today) != 3);
        if (dark.isEmpty() || lot.times() >= house[13] || lots.size() == 40) {
            Check.is("again", x.again(lot.number), -1);
            return;
        }
        Batch one = new Batch();
        one.number = lots.size();
        one.cloth = lot.cloth;
        one.pieces = dark.size();
        one.kind = lot.kind;
        one.from = lot.from;
        one.to = lot.to;
        one.strength = lot.strength;
        one.due = lot.due;
        one.from0 = lot;
        Bath bath = new Bath();
        bath.kind = house[14];
        bath.n = house[15];
        one.recipe.add(bath);
        int least = dark.stream().mapToInt(piece -> lot.shade(piece, today)).min().getAsInt();
        int greatest = dark.stream().mapToInt(piece -> lot.shade(piece, today)).max().getAsInt();
        one.look = new int[] {least, greatest, lot.look[2], lot.look[3], lot.look[4]};
        lot.still.removeAll(dark);
        Check.is("again", x.again(lot.number), one.number);
        addLot(one);
    }

    /** The pieces of all packs that could be delivered, pack by pack. */
    private List<Good> packed(int cloth) {
        List<Good> good = new ArrayList<>();
        for (Batch lot : lots) {
            for (int piece : lot.still) {
                if (lot.cloth == cloth && lot.washed >= 0 && lot.known(piece, today) == 2) {
                    Good one = new Good();
                    one.lot = lot;
                    one.piece = piece;
                    one.shade = lot.shade(piece, today);
                    good.add(one);
                }
            }
        }
        good.sort(Comparator.<Good>comparingInt(g -> g.shade).thenComparingInt(g -> g.lot.number)
                .thenComparingInt(g -> g.piece));
        List<Good> packed = new ArrayList<>();
        while (good.size() >= house[16]) {
            if (good.get(house[16] - 1).shade - good.get(0).shade <= house[17]) {
                packed.addAll(good.subList(0, house[16]));
                good = good.subList(house[16], good.size());
            } else {
                good = good.subList(1, good.size());
            }
        }
        return packed;
    }

    private void deliver() {
        int cloth = any(0, cloths.size() - 1);
        List<Good> packed = packed(cloth);
        int ready = packed.size() / house[16];
        Check.is("ready", x.ready(cloth), ready);
        int wanted = any(1, 2);
        if (wanted > ready) {
            Check.is("deliver", x.deliver(cloth, wanted), -1);
            return;
        }
        int lateNow = 0;
        for (Good one : packed.subList(0, wanted * house[16])) {
            one.lot.still.remove((Integer) one.piece);
            one.lot.delivered++;
            lateNow += today > one.lot.due ? 1 : 0;
        }
        packs += wanted;
        late += lateNow;
        Check.is("deliver", x.deliver(cloth, wanted), lateNow);
    }

    private void compareAll(int run) {
        long inTanks = 0;
        for (int i = 0; i < tanks.size(); i++) {
            Check.is("water", (long) x.has(i, 1), tanks.get(i).water);
            Check.is("dirt", (long) x.has(i, 2), tanks.get(i).dirt);
            inTanks += tanks.get(i).dirt;
        }
        long[] due = {cloths.size(), recipe.size(), 0, tanks.size(), fresh, ranOff, inTanks, drawn, dirtOff, 0, today,
            washers.size(), lots.size(), lots.stream().filter(lot -> lot.washed >= 0).count(), measures, odd, packs,
            late};
        for (int what = 0; what < due.length; what++) {
            Check.is("run " + run + ": count(" + what + ")", (long) x.count(what), due[what]);
        }
        for (Washer one : washers) {
            int[] all = {one.holds, one.in == null ? -1 : one.in.number, one.queue.size(), one.last, one.minutes};
            for (int what = 0; what < all.length; what++) {
                Check.is("run " + run + ": works(" + what + ")", x.works(one.number, what), all[what]);
            }
        }
        for (Batch lot : lots) {
            compareLot(run, lot);
        }
    }

    private int machineOf(Batch lot) {
        for (Washer one : washers) {
            if (one.in == lot || one.queue.contains(lot)) {
                return one.number;
            }
        }
        return -1;
    }

    private void compareLot(int run, Batch lot) {
        boolean meets = lot.look[0] >= lot.from && lot.look[1] <= lot.to && lot.look[2] >= lot.strength
                && lot.look[4] == 0;
        int[] all = {lot.state(), machineOf(lot), lot.done, lot.recipe.size(), lot.washed,
            lot.look[0], lot.look[1], lot.look[2], lot.look[3], lot.look[4],
            lot.from0 == null ? -1 : lot.from0.number, lot.pieces, lot.still.size(), lot.delivered, meets ? 1 : 0,
            lot.cloth};
        for (int what = 0; what < all.length; what++) {
            Check.is("run " + run + ": led(" + lot.number + ", " + what + ")", x.led(lot.number, what), all[what]);
        }
        for (int day = 0; day <= today; day += any(1, 5)) {
            int[] sorted = new int[4];
            for (int piece = 0; piece < lot.pieces; piece++) {
                int known = lot.known(piece, day);
                Check.is("known", x.known(lot.number, piece, day), known);
                sorted[known] += lot.still.contains(piece) ? 1 : 0;
            }
            for (int what = 0; what < 4; what++) {
                Check.is("sorted", x.sorted(lot.number, day, what), sorted[what]);
            }
        }
    }
}
