import java.util.ArrayList;
import java.util.Arrays;
import java.util.NoSuchElementException;

/** Trousers worn on purpose, from the recipe's text to the delivered pack; README.md tells how to use it. */
public final class TrouserWash {
    public static final int NONE = -1;

    private static final int WASH = 0;
    private static final int STONE = 1;
    private static final int BLEACH = 2;
    private static final int RINSE = 3;
    private static final String BATH_WORDS = "wash stone bleach rinse";

    private static final int GREATEST_SHADE = 255;
    private static final int MOST_CLOTHS = 6;
    private static final int MOST_MACHINES = 4;
    private static final int MOST_LOTS = 40;
    private static final int MOST_PIECES = 60;
    private static final int MOST_MEASURES = 250;
    private static final int LAST_DAY = 400;
    private static final int DAY_MINUTES = 480;
    /** Far above what one machine can do in a day: all LOTS taken, and each of their BATHS done. */
    private static final int MOST_STEPS = 1000;

    private static final int UNKNOWN = 0;
    private static final int LIGHT = 1;
    private static final int GOOD = 2;
    private static final int DARK = 3;

    private final Text text = new Text();
    private final Look[] cloths = new Look[MOST_CLOTHS];
    private int clothCount;
    /** What a text tells is read into the spare one, which takes the other's place only if the text is right. */
    private Recipe recipe = new Recipe(Recipe.MOST);
    private Recipe spareRecipe = new Recipe(Recipe.MOST);
    private House house = new House();
    private House spareHouse = new House();
    private final Look trial = new Look();
    private final Search search = new Search();
    private final Kinds kinds = new Kinds();
    private final Water water = new Water();
    private final Garments garments = new Garments();
    private final Machine[] machines = new Machine[MOST_MACHINES];
    private int machineCount;
    private final ArrayList<Lot> lots = new ArrayList<Lot>();
    private int today;
    private final Measures measures = new Measures();
    private int packsDelivered;
    private int latePieces;
    private final Panels panels = new Panels();

    public TrouserWash() {
        for (int i = 0; i < MOST_CLOTHS; i++) {
            cloths[i] = new Look();
        }
        for (int i = 0; i < MOST_MACHINES; i++) {
            machines[i] = new Machine();
        }
    }

    public int feed(int a, int b, int c, int d, int e) {
        if (!text.hasRoom()) {
            return NONE;
        }
        text.append(a);
        text.append(b);
        text.append(c);
        text.append(d);
        text.append(e);
        return text.length;
    }

    public boolean end(int n) {
        if (!within(n, 0, text.length)) {
            return false;
        }
        text.length = n;
        return true;
    }

    public int cloth(int shade, int strength, int hard)
            throws IllegalArgumentException, UnsupportedOperationException {
        need(within(shade, 0, GREATEST_SHADE) && within(strength, 0, 255) && within(hard, 0, 9));
        needRoom(clothCount, MOST_CLOTHS);
        cloths[clothCount].begin(shade, strength, hard);
        return clothCount++;
    }

    public int recipe() throws IllegalArgumentException {
        text.open();
        spareRecipe.read(text);
        text.length = 0;
        need(text.wrong == NONE);
        Recipe old = recipe;
        recipe = spareRecipe;
        spareRecipe = old;
        return recipe.length;
    }

    public int fault() {
        return text.wrong;
    }

    public int look(int cloth, int baths, int what)
            throws IndexOutOfBoundsException, IllegalArgumentException, NoSuchElementException {
        needIndex(cloth, clothCount);
        need(baths >= 0);
        needWhat(what, 4);
        tryRecipe(cloth, baths);
        return trial.part(what);
    }

    public int cost() {
        return recipe.price();
    }

    public boolean meets(int cloth, int from, int to, int strength)
            throws IndexOutOfBoundsException, IllegalArgumentException {
        needIndex(cloth, clothCount);
        needWish(from, to, strength);
        tryRecipe(cloth, recipe.length);
        return trial.surelyMeets(from, to, strength);
    }

    public int cheapest(int cloth, int from, int to, int strength, int most)
            throws IndexOutOfBoundsException, IllegalArgumentException {
        searchFor(cloth, from, to, strength, most);
        return search.bestCost;
    }

    public int bath(int cloth, int from, int to, int strength, int most, int i)
            throws IndexOutOfBoundsException, IllegalArgumentException {
        searchFor(cloth, from, to, strength, most);
        return search.bestBath(i);
    }

    public void carry(int from, int to, int litres) throws IndexOutOfBoundsException, IllegalArgumentException {
        needIndex(from, Kinds.KINDS);
        needIndex(to, Kinds.KINDS);
        need(within(litres, NONE, 100) && from != to);
        kinds.tell(from, to, litres);
    }

    public int batch(int kind) throws IndexOutOfBoundsException {
        needIndex(kind, Kinds.KINDS);
        return kinds.addBatch(kind);
    }

    public int order() {
        return kinds.leastSum();
    }

    public int clear() {
        int were = kinds.batches;
        kinds.batches = 0;
        return were;
    }

    public int tank(int hold) throws IllegalArgumentException, UnsupportedOperationException {
        need(within(hold, 1, 1000));
        needRoom(water.tanks, Water.MOST);
        return water.add(hold);
    }

    public int draw(int n, int bears) throws IllegalArgumentException {
        need(within(n, 1, 1000) && within(bears, 0, 100));
        water.drawnDirt += water.takeOut(n, bears);
        return water.lastFresh;
    }

    public int pour(int tank, int n, int dirt) throws IndexOutOfBoundsException, IllegalArgumentException {
        needIndex(tank, water.tanks);
        need(within(n, 1, 1000) && within(dirt, 0, 100000));
        return water.putIn(tank, n, dirt);
    }

    public int has(int tank, int what) throws IndexOutOfBoundsException, NoSuchElementException {
        needIndex(tank, water.tanks);
        needWhat(what, 2);
        return water.part(tank, what);
    }

    public int garment(int shade) throws IllegalArgumentException {
        need(within(shade, 0, GREATEST_SHADE));
        return garments.add(shade);
    }

    public int spread(int k) throws IllegalArgumentException {
        need(within(k, 1, 10));
        return garments.leastSpread(k);
    }

    public int packs(int n, int d, boolean left) throws IllegalArgumentException {
        need(within(n, 1, 20) && d >= 0);
        int full = garments.fullPacks(n, d);
        return left ? garments.size - full * n : full;
    }

    public int house() throws IllegalArgumentException {
        text.open();
        spareHouse.read(text);
        text.length = 0;
        need(text.wrong == NONE);
        House old = house;
        house = spareHouse;
        spareHouse = old;
        return house.rules;
    }

    public int tells(int what) throws NoSuchElementException {
        needWhat(what, House.LAST);
        return house.value(what);
    }

    public int machine(int holds) throws IllegalArgumentException, UnsupportedOperationException {
        need(within(holds, 1, MOST_PIECES));
        needRoom(machineCount, MOST_MACHINES);
        machines[machineCount].holds = holds;
        return machineCount++;
    }

    public int lot(int cloth, int pieces, int kind, int from, int to, int strength, int due)
            throws IndexOutOfBoundsException, IllegalArgumentException, UnsupportedOperationException {
        needIndex(cloth, clothCount);
        needIndex(kind, Kinds.KINDS);
        need(within(pieces, 1, MOST_PIECES));
        needWish(from, to, strength);
        need(within(due, 0, LAST_DAY));
        needRoom(lots.size(), MOST_LOTS);
        Lot told = new Lot(cloth, pieces, kind, due, recipe.length);
        told.wishFor(from, to, strength);
        told.recipe.copy(recipe);
        told.look.copy(cloths[cloth]);
        return addLot(told);
    }

    public boolean load(int lot, int machine) throws IndexOutOfBoundsException {
        Lot one = lotAt(lot);
        needIndex(machine, machineCount);
        Machine on = machines[machine];
        if (one.state != Lot.WAITING || one.pieces > on.holds) {
            return false;
        }
        on.enqueue(lot);
        one.state = Lot.LOADED;
        one.machine = machine;
        return true;
    }

    public int days(int n) throws IllegalArgumentException {
        need(within(n, 0, 60));
        for (int i = 0; i < n && today < LAST_DAY; i++) {
            today++;
            for (int m = 0; m < machineCount; m++) {
                workDay(machines[m]);
            }
        }
        return today;
    }

    public int led(int lot, int what) throws IndexOutOfBoundsException, NoSuchElementException {
        Lot one = lotAt(lot);
        needWhat(what, 15);
        switch (what) {
            case 0: return one.state;
            case 1: return one.machine;
            case 2: return one.done;
            case 3: return one.recipe.length;
            case 4: return one.washedOn;
            case 10: return one.origin;
            case 11: return one.pieces;
            case 12: return one.countPlaced(Lot.STILL_HERE);
            case 13: return one.countPlaced(Lot.DELIVERED);
            case 14: return one.look.surelyMeets(one.from, one.to, one.strength) ? 1 : 0;
            case 15: return one.cloth;
            default: return one.look.part(what - 5);
        }
    }

    public int works(int machine, int what) throws IndexOutOfBoundsException, NoSuchElementException {
        needIndex(machine, machineCount);
        needWhat(what, 4);
        Machine one = machines[machine];
        switch (what) {
            case 0: return one.holds;
            case 1: return one.inside;
            case 2: return one.queued;
            case 3: return one.lastKind;
            default: return one.minutes;
        }
    }

    public int measure(int lot, int piece, int shade)
            throws IndexOutOfBoundsException, IllegalStateException, IllegalArgumentException {
        Lot one = lotAt(lot);
        needIndex(piece, one.pieces);
        needWashed(one);
        need(within(shade, 0, GREATEST_SHADE));
        int told = measures.tell(shade, today, one.latest[piece]);
        if (told != NONE) {
            one.latest[piece] = told;
            if (!within(shade, one.look.least, one.look.greatest)) {
                measures.odd++;
            }
        }
        return told;
    }

    public int known(int lot, int piece, int day) throws IndexOutOfBoundsException {
        Lot one = lotAt(lot);
        needIndex(piece, one.pieces);
        return judged(one, piece, day);
    }

    public int sorted(int lot, int day, int what) throws IndexOutOfBoundsException, NoSuchElementException {
        Lot one = lotAt(lot);
        needWhat(what, DARK);
        int found = 0;
        for (int piece = 0; piece < one.pieces; piece++) {
            if (one.isStillHere(piece) && judged(one, piece, day) == what) {
                found++;
            }
        }
        return found;
    }

    public int again(int lot) throws IndexOutOfBoundsException, IllegalStateException {
        Lot old = lotAt(lot);
        needWashed(old);
        int dark = sorted(lot, today, DARK);
        if (old.times >= house.value(House.TIMES) || dark == 0 || lots.size() >= MOST_LOTS) {
            return NONE;
        }
        Lot next = new Lot(old.cloth, dark, old.kind, old.due, 1);
        next.wishFor(old.from, old.to, old.strength);
        next.recipe.setOnly(house.value(House.AGAIN_BATH), house.value(House.AGAIN_AMOUNT));
        next.origin = lot;
        next.times = old.times + 1;
        next.look.copy(old.look);
        moveDark(old, next.look);
        return addLot(next);
    }

    public int deliver(int cloth, int packs) throws IndexOutOfBoundsException, IllegalArgumentException {
        needIndex(cloth, clothCount);
        need(within(packs, 1, 20));
        if (findPacks(cloth) < packs) {
            return NONE;
        }
        int late = 0;
        for (int i = 0; i < packs; i++) {
            late += deliverPack(measures.packBegin(i));
        }
        packsDelivered += packs;
        latePieces += late;
        return late;
    }

    public int ready(int cloth) throws IndexOutOfBoundsException {
        needIndex(cloth, clothCount);
        return findPacks(cloth);
    }

    public void pattern(int w, int h) throws IllegalArgumentException {
        need(within(w, 1, Panels.MOST_W) && within(h, 1, Panels.MOST_H));
        panels.beginPattern(w, h);
    }

    public boolean heat(int x, int y, int heat) throws IllegalArgumentException {
        need(within(x, 0, panels.w - 1) && within(y, 0, panels.h - 1) && within(heat, 0, 9));
        return panels.setHeat(x, y, heat);
    }

    public void burn(int panel, int x, int y) throws IndexOutOfBoundsException, IllegalArgumentException {
        needIndex(panel, Panels.PANELS);
        need(within(x, 0, 5) && within(y, 0, 3));
        panels.burnOne(panel, x, y);
    }

    public int burned(int panel, int x, int y) throws IndexOutOfBoundsException, IllegalArgumentException {
        needIndex(panel, Panels.PANELS);
        need(within(x, 0, Panels.WIDE - 1) && within(y, 0, Panels.HIGH - 1));
        return panels.burns[panel][y * Panels.WIDE + x];
    }

    public int seam(int s) throws IllegalArgumentException {
        need(within(s, 0, Panels.HIGH - 1));
        return panels.unlike(s);
    }

    public int shift() {
        return panels.bestTurn();
    }

    public int count(int what) {
        switch (what) {
            case 0: return clothCount;
            case 1: return recipe.length;
            case 2: return kinds.batches;
            case 3: return water.tanks;
            case 4: return water.fresh;
            case 5: return water.ranOff;
            case 6: return water.dirtInTanks();
            case 7: return water.drawnDirt;
            case 8: return water.dirtOff;
            case 9: return garments.size;
            case 10: return today;
            case 11: return machineCount;
            case 12: return lots.size();
            case 13: return countWashed();
            case 14: return measures.size;
            case 15: return measures.odd;
            case 16: return packsDelivered;
            case 17: return latePieces;
            case 18: return house.rules;
            default: return NONE;
        }
    }

    private static boolean within(int value, int least, int most) {
        return value >= least && value <= most;
    }

    private static void need(boolean right) {
        if (!right) {
            throw new IllegalArgumentException("a number is none, or the text is wrong");
        }
    }

    private static void needIndex(int number, int size) {
        if (number < 0 || number >= size) {
            throw new IndexOutOfBoundsException("there is no such one");
        }
    }

    private static void needWhat(int what, int last) {
        if (what < 0 || what > last) {
            throw new NoSuchElementException("there is no such what");
        }
    }

    private static void needRoom(int size, int most) {
        if (size >= most) {
            throw new UnsupportedOperationException("there are as many as there may be");
        }
    }

    private static void needWish(int from, int to, int strength) {
        need(0 <= from && from <= to && to <= GREATEST_SHADE && within(strength, 0, 255));
    }

    private static void needWashed(Lot one) {
        if (one.state != Lot.WASHED) {
            throw new IllegalStateException("the LOT is not WASHED");
        }
    }

    private Lot lotAt(int number) {
        needIndex(number, lots.size());
        return lots.get(number);
    }

    private int addLot(Lot one) {
        lots.add(one);
        return lots.size() - 1;
    }

    private void tryRecipe(int cloth, int baths) {
        trial.copy(cloths[cloth]);
        int last = Math.min(baths, recipe.length);
        for (int i = 0; i < last; i++) {
            trial.take(recipe.baths[i], recipe.amounts[i]);
        }
    }

    private void searchFor(int cloth, int from, int to, int strength, int most) {
        needIndex(cloth, clothCount);
        needWish(from, to, strength);
        need(within(most, 0, Search.MOST));
        search.wishFor(from, to, strength);
        search.run(cloths[cloth], most);
    }

    private void workDay(Machine one) {
        int left = DAY_MINUTES;
        for (int i = 0; i < MOST_STEPS && left != NONE; i++) {
            left = one.inside == NONE ? takeNext(one, left) : doNextBath(one, left);
        }
    }

    /** Answers the minutes that are left, or NONE if the MACHINE is done for that day. */
    private int takeNext(Machine one, int left) {
        int place = firstNotBarred(one);
        if (place == NONE) {
            return NONE;
        }
        Lot next = lotAt(one.queue[place]);
        int litres = kinds.between(one.lastKind, next.kind);
        if (litres > left) {
            return NONE;
        }
        one.takeIn(place, next.kind);
        one.minutes += litres;
        water.washOut(litres);
        next.state = Lot.INSIDE;
        finishIfNoneLeft(one, next);
        return left - litres;
    }

    private int firstNotBarred(Machine one) {
        for (int place = 0; place < one.queued; place++) {
            if (kinds.between(one.lastKind, lotAt(one.queue[place]).kind) != NONE) {
                return place;
            }
        }
        return NONE;
    }

    /** Answers the minutes that are left, or NONE if the MACHINE is done for that day. */
    private int doNextBath(Machine one, int left) {
        Lot in = lotAt(one.inside);
        int bath = in.recipe.bathAt(in.done);
        int amount = in.recipe.amountAt(in.done);
        int minutes = house.value(House.MINUTES + bath) * amount;
        if (minutes > left) {
            return NONE;
        }
        int litres = in.pieces * house.value(House.LITRES);
        int drawn = water.takeOut(litres, house.value(House.BEARS + bath));
        in.look.take(bath, amount);
        in.done++;
        water.giveBack(house.value(House.POURS + bath), litres, drawn + in.pieces * Recipe.soil(bath, amount));
        one.minutes += minutes;
        finishIfNoneLeft(one, in);
        return left - minutes;
    }

    private void finishIfNoneLeft(Machine one, Lot in) {
        if (in.done >= in.recipe.length) {
            in.state = Lot.WASHED;
            in.machine = NONE;
            in.washedOn = today;
            one.inside = NONE;
        }
    }

    private int countWashed() {
        int found = 0;
        for (int i = 0; i < lots.size(); i++) {
            if (lots.get(i).state == Lot.WASHED) {
                found++;
            }
        }
        return found;
    }

    private int judged(Lot one, int piece, int day) {
        return one.judge(measures.shadeOn(one.latest[piece], day));
    }

    /** The DARK pieces go; of the look that they take along the span of SHADE is that of their MEASURES. */
    private void moveDark(Lot old, Look look) {
        int least = GREATEST_SHADE;
        int greatest = 0;
        for (int piece = 0; piece < old.pieces; piece++) {
            if (old.isStillHere(piece) && judged(old, piece, today) == DARK) {
                int shade = measures.shadeOn(old.latest[piece], today);
                least = Math.min(least, shade);
                greatest = Math.max(greatest, shade);
                old.placed[piece] = Lot.GONE;
            }
        }
        look.least = least;
        look.greatest = greatest;
    }

    private int findPacks(int cloth) {
        measures.gatherNone();
        for (int i = 0; i < lots.size(); i++) {
            Lot one = lots.get(i);
            if (one.cloth == cloth && one.state == Lot.WASHED) {
                gatherGood(i, one);
            }
        }
        return measures.formPacks(house.value(House.PACK), house.value(House.BAND));
    }

    private void gatherGood(int number, Lot one) {
        for (int piece = 0; piece < one.pieces; piece++) {
            if (one.isStillHere(piece) && judged(one, piece, today) == GOOD) {
                measures.gather(measures.shadeOn(one.latest[piece], today), number, piece);
            }
        }
    }

    /** Answers how many pieces of the pack are LATE. */
    private int deliverPack(int begin) {
        int late = 0;
        int behind = begin + house.value(House.PACK);
        for (int i = begin; i < behind; i++) {
            Lot one = lotAt(measures.lotOf(i));
            one.setDelivered(measures.pieceOf(i));
            if (today > one.due) {
                late++;
            }
        }
        return late;
    }

    /** The TAPE, and the reading of it; behind the first wrong byte nothing more is read. */
    private static final class Text {
        static final int MOST = 400;
        static final int FED = 20;
        private final byte[] bytes = new byte[MOST];
        private int length;
        private int at;
        private int wrong = NONE;

        boolean hasRoom() {
            return length + FED <= MOST;
        }

        void append(int number) {
            for (int bits = 24; bits >= 0 && length < MOST; bits -= 8) {
                bytes[length] = (byte) (number >>> bits);
                length++;
            }
        }

        void open() {
            at = 0;
            wrong = NONE;
        }

        boolean isBlank() {
            skipBlanks();
            return at >= length;
        }

        private void skipBlanks() {
            while (at < length && bytes[at] == ' ') {
                at++;
            }
        }

        /** What comes next cannot stand here. */
        void refuseNext() {
            skipBlanks();
            refuse(at);
        }

        private void refuse(int begin) {
            if (wrong == NONE) {
                wrong = begin;
            }
        }

        /** The place of the next word among these, which have a blank between them; NONE if it is none of them. */
        int pick(String words) {
            if (wrong != NONE) {
                return NONE;
            }
            skipBlanks();
            int begin = at;
            while (at < length && bytes[at] >= 'a' && bytes[at] <= 'z') {
                at++;
            }
            int found = placeAmong(words, begin);
            if (found == NONE) {
                refuse(begin);
            }
            return found;
        }

        private int placeAmong(String words, int begin) {
            int place = 0;
            int alike = 0;
            for (int i = 0; i < words.length(); i++) {
                if (words.charAt(i) == ' ') {
                    if (alike == at - begin) {
                        return place;
                    }
                    place++;
                    alike = 0;
                } else if (alike != NONE && begin + alike < at && bytes[begin + alike] == words.charAt(i)) {
                    alike++;
                } else {
                    alike = NONE;
                }
            }
            return alike == at - begin ? place : NONE;
        }

        /** The next number, of at most so many digits, in its bounds; NONE if it is not there. */
        int number(int mostDigits, int least, int most) {
            if (wrong != NONE) {
                return NONE;
            }
            skipBlanks();
            int begin = at;
            int value = 0;
            while (at < length && bytes[at] >= '0' && bytes[at] <= '9') {
                if (at - begin < mostDigits) {
                    value = value * 10 + (bytes[at] - '0');
                }
                at++;
            }
            int digits = at - begin;
            if (digits == 0 || digits > mostDigits || value < least || value > most) {
                refuse(begin);
                return NONE;
            }
            return value;
        }

        /** Whether a ; is next: then it is read, and another thing must come; else nothing may. */
        boolean goesOn() {
            if (wrong != NONE) {
                return false;
            }
            skipBlanks();
            if (at >= length) {
                return false;
            }
            if (bytes[at] != ';') {
                refuse(at);
                return false;
            }
            at++;
            return true;
        }
    }

    /** A row of BATHS with the n of each; a rinse counts as n were 1. */
    private static final class Recipe {
        static final int MOST = 20;
        private final int[] baths;
        private final int[] amounts;
        private int length;

        Recipe(int most) {
            int room = Math.max(0, most);
            baths = new int[room];
            amounts = new int[room];
        }

        /** If the text turns out wrong, what was read is of no use. */
        void read(Text text) {
            length = 0;
            boolean more = !text.isBlank();
            for (int i = 0; i <= MOST && more; i++) {
                readBath(text);
                more = text.goesOn();
            }
        }

        private void readBath(Text text) {
            if (length >= baths.length) {
                text.refuseNext();
                return;
            }
            int bath = text.pick(BATH_WORDS);
            int amount = bath == RINSE ? 1 : text.number(2, 1, 20);
            if (text.wrong == NONE) {
                add(bath, amount);
            }
        }

        private void add(int bath, int amount) {
            if (length < baths.length) {
                baths[length] = bath;
                amounts[length] = amount;
                length++;
            }
        }

        void setOnly(int bath, int amount) {
            length = 0;
            add(bath, amount);
        }

        void copy(Recipe other) {
            length = 0;
            for (int i = 0; i < other.length; i++) {
                add(other.baths[i], other.amounts[i]);
            }
        }

        int bathAt(int i) {
            return i >= 0 && i < length ? baths[i] : RINSE;
        }

        int amountAt(int i) {
            return i >= 0 && i < length ? amounts[i] : 1;
        }

        int price() {
            int sum = 0;
            for (int i = 0; i < length; i++) {
                sum += priceOf(baths[i], amounts[i]);
            }
            return sum;
        }

        static int priceOf(int bath, int n) {
            switch (bath) {
                case WASH: return n;
                case STONE: return 3 * n;
                case BLEACH: return 2 * n + 1;
                default: return 1;
            }
        }

        /** The DIRT that one piece gives to the water of a BATH. */
        static int soil(int bath, int n) {
            switch (bath) {
                case WASH: return n;
                case STONE: return 2 * n;
                case BLEACH: return 3 * n + 5;
                default: return 1;
            }
        }
    }

    /** The LOOK of a CLOTH with its HARD, which a bleach asks for. */
    private static final class Look {
        private int least;
        private int greatest;
        private int weakest;
        private int strongest;
        private boolean lye;
        private int hard;

        void begin(int shade, int strength, int hardness) {
            least = shade;
            greatest = shade;
            weakest = strength;
            strongest = strength;
            lye = false;
            hard = hardness;
        }

        void copy(Look other) {
            least = other.least;
            greatest = other.greatest;
            weakest = other.weakest;
            strongest = other.strongest;
            lye = other.lye;
            hard = other.hard;
        }

        void take(int bath, int n) {
            switch (bath) {
                case WASH:
                    fade(n / 2, n);
                    break;
                case STONE:
                    fade(n, n + 3);
                    wear(n, n + 2);
                    if (lye) {
                        wear(5, 5);
                    }
                    break;
                case BLEACH:
                    fade(Math.max(0, 2 * n - hard), Math.max(0, 3 * n - hard));
                    wear(0, n);
                    lye = true;
                    break;
                default:
                    lye = false;
                    break;
            }
        }

        private void fade(int atLeast, int atMost) {
            least = Math.max(0, least - atMost);
            greatest = Math.max(0, greatest - atLeast);
        }

        private void wear(int atLeast, int atMost) {
            weakest = Math.max(0, weakest - atMost);
            strongest = Math.max(0, strongest - atLeast);
        }

        boolean surelyMeets(int from, int to, int strength) {
            return least >= from && greatest <= to && weakest >= strength && !lye;
        }

        int part(int what) {
            switch (what) {
                case 0: return least;
                case 1: return greatest;
                case 2: return weakest;
                case 3: return strongest;
                default: return lye ? 1 : 0;
            }
        }
    }

    /** Looks for the CHEAPEST; the looks on the way down are made once and used again. */
    private static final class Search {
        static final int MOST = 6;
        private static final int[] AMOUNTS = {4, 2, 3, 1};
        private final Look[] looks = new Look[MOST + 1];
        private final int[] row = new int[MOST];
        private final int[] best = new int[MOST];
        private int bestCost = NONE;
        private int bestLength;
        private int from;
        private int to;
        private int strength;

        Search() {
            for (int i = 0; i <= MOST; i++) {
                looks[i] = new Look();
            }
        }

        void wishFor(int least, int greatest, int weakest) {
            from = least;
            to = greatest;
            strength = weakest;
        }

        void run(Look cloth, int most) {
            bestCost = NONE;
            bestLength = 0;
            looks[0].copy(cloth);
            descend(0, Math.min(most, MOST), 0);
        }

        int bestBath(int i) {
            return bestCost != NONE && i >= 0 && i < bestLength ? best[i] : NONE;
        }

        /** Rows are met in the order BATH by BATH, so of two as good the first met stays. */
        private void descend(int depth, int most, int cost) {
            Look look = looks[depth];
            // No BATH makes SHADE or STRENGTH more again, so what is too low now stays so.
            if (look.least < from || look.weakest < strength) {
                return;
            }
            if (look.surelyMeets(from, to, strength)) {
                keepIfBetter(depth, cost);
            }
            if (depth >= most || (bestCost != NONE && cost >= bestCost)) {
                return;
            }
            for (int bath = WASH; bath <= RINSE; bath++) {
                // A rinse without LYE does nothing but cost: no row with it can be the CHEAPEST.
                if (bath != RINSE || look.lye) {
                    row[depth] = bath;
                    looks[depth + 1].copy(look);
                    looks[depth + 1].take(bath, AMOUNTS[bath]);
                    descend(depth + 1, most, cost + Recipe.priceOf(bath, AMOUNTS[bath]));
                }
            }
        }

        private void keepIfBetter(int length, int cost) {
            if (bestCost == NONE || cost < bestCost || (cost == bestCost && length < bestLength)) {
                bestCost = cost;
                bestLength = length;
                System.arraycopy(row, 0, best, 0, length);
            }
        }
    }

    /** CARRY between KINDS, and the ORDER of the BATCHES. */
    private static final class Kinds {
        static final int KINDS = 6;
        static final int MOST = 9;
        private final int[] carried = new int[KINDS * KINDS];
        private final int[] kindOf = new int[MOST];
        private int batches;
        /** For each set of BATCHES and the last of them the least sum, NONE if there is no such order. */
        private final int[] sums = new int[(1 << MOST) * MOST];

        void tell(int from, int to, int litres) {
            carried[from * KINDS + to] = litres;
        }

        /** CARRY, NONE if BARRED; nothing is carried over from no KIND at all. */
        int between(int from, int to) {
            return from == NONE ? 0 : carried[from * KINDS + to];
        }

        int addBatch(int kind) {
            if (batches >= MOST) {
                return NONE;
            }
            kindOf[batches] = kind;
            batches++;
            return batches;
        }

        int leastSum() {
            if (batches == 0) {
                return 0;
            }
            Arrays.fill(sums, NONE);
            for (int i = 0; i < batches; i++) {
                sums[(1 << i) * MOST + i] = 0;
            }
            int all = (1 << batches) - 1;
            for (int set = 1; set < all; set++) {
                for (int last = 0; last < batches; last++) {
                    if (sums[set * MOST + last] != NONE) {
                        goOn(set, last);
                    }
                }
            }
            int least = NONE;
            for (int last = 0; last < batches; last++) {
                least = lesser(least, sums[all * MOST + last]);
            }
            return least;
        }

        private void goOn(int set, int last) {
            int sum = sums[set * MOST + last];
            for (int next = 0; next < batches; next++) {
                int litres = between(kindOf[last], kindOf[next]);
                if ((set & (1 << next)) == 0 && litres != NONE) {
                    int place = (set | (1 << next)) * MOST + next;
                    sums[place] = lesser(sums[place], sum + litres);
                }
            }
        }

        private static int lesser(int a, int b) {
            if (a == NONE) {
                return b;
            }
            return b == NONE ? a : Math.min(a, b);
        }
    }

    /** The TANKS, and what became of all water and DIRT. */
    private static final class Water {
        static final int MOST = 5;
        private final int[] holds = new int[MOST];
        private final int[] litres = new int[MOST];
        private final int[] dirt = new int[MOST];
        private int tanks;
        private int fresh;
        private int lastFresh;
        private int ranOff;
        private int drawnDirt;
        private int dirtOff;

        int add(int hold) {
            holds[tanks] = hold;
            tanks++;
            return tanks - 1;
        }

        int part(int tank, int what) {
            switch (what) {
                case 0: return holds[tank];
                case 1: return litres[tank];
                default: return dirt[tank];
            }
        }

        int dirtInTanks() {
            int sum = 0;
            for (int i = 0; i < tanks; i++) {
                sum += dirt[i];
            }
            return sum;
        }

        /** A DRAW: answers the DIRT that came along, and leaves in lastFresh how much was fresh. */
        int takeOut(int n, int bears) {
            int lacks = n;
            int along = 0;
            for (int i = 0; i < tanks && lacks > 0; i++) {
                int tank = dirtiest(bears);
                if (tank == NONE) {
                    break;
                }
                int taken = Math.min(lacks, litres[tank]);
                int part = partUp(dirt[tank], taken, litres[tank]);
                litres[tank] -= taken;
                dirt[tank] -= part;
                lacks -= taken;
                along += part;
            }
            lastFresh = lacks;
            fresh += lacks;
            return along;
        }

        private int dirtiest(int bears) {
            int found = NONE;
            for (int i = 0; i < tanks; i++) {
                boolean borne = litres[i] > 0 && 100L * dirt[i] <= (long) bears * litres[i];
                if (borne && (found == NONE || isDirtier(i, found))) {
                    found = i;
                }
            }
            return found;
        }

        private boolean isDirtier(int a, int b) {
            return (long) dirt[a] * litres[b] > (long) dirt[b] * litres[a];
        }

        /** So much of a sum as some of all its litres have of it, rounded up. */
        private static int partUp(int sum, int some, int all) {
            return all <= 0 ? 0 : (int) (((long) sum * some + all - 1) / all);
        }

        /** A POUR: answers how much ran off. */
        int putIn(int tank, int n, int dirtOfIt) {
            int above = Math.max(0, litres[tank] + n - holds[tank]);
            int part = partUp(dirtOfIt, above, n);
            litres[tank] += n - above;
            dirt[tank] += dirtOfIt - part;
            runOff(above, part);
            return above;
        }

        private void runOff(int n, int dirtOfIt) {
            ranOff += n;
            dirtOff += dirtOfIt;
        }

        void giveBack(int tank, int n, int dirtOfIt) {
            if (tank >= 0 && tank < tanks) {
                putIn(tank, n, dirtOfIt);
            } else {
                runOff(n, dirtOfIt);
            }
        }

        /** What is washed out between two KINDS: fresh water, that runs off with as much DIRT. */
        void washOut(int n) {
            fresh += n;
            runOff(n, n);
        }
    }

    /** GARMENTS, kept by their SHADE. */
    private static final class Garments {
        static final int MOST = 40;
        private final int[] shades = new int[MOST];
        private int size;

        int add(int shade) {
            if (size >= MOST) {
                return NONE;
            }
            int place = size;
            while (place > 0 && shades[place - 1] > shade) {
                shades[place] = shades[place - 1];
                place--;
            }
            shades[place] = shade;
            size++;
            return size;
        }

        int leastSpread(int k) {
            for (int d = 0; d < GREATEST_SHADE; d++) {
                if (sorts(d) <= k) {
                    return d;
                }
            }
            return GREATEST_SHADE;
        }

        private int sorts(int d) {
            int found = 0;
            int begin = 0;
            for (int i = 0; i < size; i++) {
                if (i == 0 || shades[i] - shades[begin] > d) {
                    found++;
                    begin = i;
                }
            }
            return found;
        }

        int fullPacks(int n, int d) {
            if (n <= 0) {
                return 0;
            }
            int found = 0;
            int begin = 0;
            for (int i = 1; i <= size; i++) {
                if (i == size || shades[i] - shades[begin] > d) {
                    found += (i - begin) / n;
                    begin = i;
                }
            }
            return found;
        }
    }

    /** What the house tells, by the numbers of tells(). */
    private static final class House {
        static final int BEARS = 0;
        static final int POURS = 4;
        static final int LITRES = 8;
        static final int MINUTES = 9;
        static final int TIMES = 13;
        static final int AGAIN_BATH = 14;
        static final int AGAIN_AMOUNT = 15;
        static final int PACK = 16;
        static final int BAND = 17;
        static final int LAST = 17;
        static final int MOST = 24;
        private static final int DIGITS = 3;
        private static final String RULE_WORDS = "bears pours litres minutes again pack band";
        private static final int[] AT_FIRST = {0, 0, 0, 0, -1, -1, -1, -1, 5, 3, 4, 5, 4, 0, 0, 1, 5, 4};
        private final int[] told = AT_FIRST.clone();
        private int rules;

        int value(int what) {
            return what >= 0 && what < told.length ? told[what] : NONE;
        }

        /** If the text turns out wrong, what was read is of no use. */
        void read(Text text) {
            System.arraycopy(AT_FIRST, 0, told, 0, told.length);
            rules = 0;
            boolean more = !text.isBlank();
            for (int i = 0; i <= MOST && more; i++) {
                readRule(text);
                more = text.goesOn();
            }
        }

        private void readRule(Text text) {
            if (rules >= MOST) {
                text.refuseNext();
                return;
            }
            rules++;
            switch (text.pick(RULE_WORDS)) {
                case 0:
                    readOfBath(text, BEARS, 0, 100);
                    break;
                case 1:
                    readPours(text);
                    break;
                case 2:
                    told[LITRES] = text.number(DIGITS, 1, 20);
                    break;
                case 3:
                    readOfBath(text, MINUTES, 1, 60);
                    break;
                case 4:
                    readAgain(text);
                    break;
                case 5:
                    told[PACK] = text.number(DIGITS, 1, 20);
                    break;
                case 6:
                    told[BAND] = text.number(DIGITS, 0, 50);
                    break;
                default:
                    break;
            }
        }

        private void readOfBath(Text text, int first, int least, int most) {
            int bath = text.pick(BATH_WORDS);
            int number = text.number(DIGITS, least, most);
            if (bath != NONE) {
                told[first + bath] = number;
            }
        }

        private void readPours(Text text) {
            int bath = text.pick(BATH_WORDS);
            int tank = text.pick("to away") == 0 ? text.number(DIGITS, 0, 4) : NONE;
            if (bath != NONE) {
                told[POURS + bath] = tank;
            }
        }

        private void readAgain(Text text) {
            told[TIMES] = text.number(DIGITS, 0, 5);
            text.pick("times");
            text.pick("with");
            told[AGAIN_BATH] = text.pick("wash stone bleach");
            told[AGAIN_AMOUNT] = text.number(DIGITS, 1, 20);
        }
    }

    /** A MACHINE, with the numbers of the LOTS that are LOADED on it. */
    private static final class Machine {
        private int holds;
        private final int[] queue = new int[MOST_LOTS];
        private int queued;
        private int inside = NONE;
        private int lastKind = NONE;
        private int minutes;

        void enqueue(int lot) {
            if (queued < queue.length) {
                queue[queued] = lot;
                queued++;
            }
        }

        void takeIn(int place, int kind) {
            inside = queue[place];
            lastKind = kind;
            queued--;
            for (int i = place; i < queued; i++) {
                queue[i] = queue[i + 1];
            }
        }
    }

    /** A LOT and where its pieces are. */
    private static final class Lot {
        static final int WAITING = 0;
        static final int LOADED = 1;
        static final int INSIDE = 2;
        static final int WASHED = 3;
        static final int STILL_HERE = 0;
        static final int GONE = 1;
        static final int DELIVERED = 2;
        private final int cloth;
        private final int pieces;
        private final int kind;
        private final int due;
        private int from;
        private int to;
        private int strength;
        private final Recipe recipe;
        private final Look look = new Look();
        private int state = WAITING;
        /** The MACHINE on which it is LOADED, or in which it is. */
        private int machine = NONE;
        private int done;
        private int washedOn = NONE;
        private int origin = NONE;
        /** How many times its pieces were washed again before. */
        private int times;
        private final int[] placed;
        /** Of each piece the number of the MEASURE told last, or NONE. */
        private final int[] latest;

        Lot(int clothOfIt, int piecesOfIt, int kindOfIt, int dueOfIt, int baths) {
            cloth = clothOfIt;
            pieces = Math.max(0, piecesOfIt);
            kind = kindOfIt;
            due = dueOfIt;
            recipe = new Recipe(baths);
            placed = new int[pieces];
            latest = new int[pieces];
            Arrays.fill(latest, NONE);
        }

        void wishFor(int least, int greatest, int weakest) {
            from = least;
            to = greatest;
            strength = weakest;
        }

        boolean isStillHere(int piece) {
            return placed[piece] == STILL_HERE;
        }

        void setDelivered(int piece) {
            if (piece >= 0 && piece < pieces) {
                placed[piece] = DELIVERED;
            }
        }

        int countPlaced(int where) {
            int found = 0;
            for (int i = 0; i < pieces; i++) {
                if (placed[i] == where) {
                    found++;
                }
            }
            return found;
        }

        int judge(int shade) {
            if (shade == NONE) {
                return UNKNOWN;
            }
            if (shade > to) {
                return DARK;
            }
            return shade < from ? LIGHT : GOOD;
        }
    }

    /** The MEASURES, each with the one told before it of the same piece; and the packs of measured pieces. */
    private static final class Measures {
        private static final int SHADE_BITS = 12;
        private static final int LOT_BITS = 6;
        private static final int PART = 63;
        private final int[] shades = new int[MOST_MEASURES];
        private final int[] told = new int[MOST_MEASURES];
        private final int[] before = new int[MOST_MEASURES];
        private int size;
        private int odd;
        /** SHADE, LOT and piece in one number, which compares as they do. */
        private final int[] gathered = new int[MOST_MEASURES];
        private final int[] ordered = new int[MOST_MEASURES];
        private final int[] packBegins = new int[MOST_MEASURES];
        private final int[] places = new int[GREATEST_SHADE + 2];
        private int gatheredSize;

        int tell(int shade, int day, int previous) {
            if (size >= MOST_MEASURES) {
                return NONE;
            }
            shades[size] = shade;
            told[size] = day;
            before[size] = previous;
            size++;
            return size - 1;
        }

        /** The SHADE told last up to a day, from the latest MEASURE of a piece back; NONE if there is none. */
        int shadeOn(int latest, int day) {
            int one = latest;
            for (int i = 0; i < size && one >= 0 && one < size; i++) {
                if (told[one] <= day) {
                    return shades[one];
                }
                one = before[one];
            }
            return NONE;
        }

        void gatherNone() {
            gatheredSize = 0;
        }

        /** There is always room, as each GOOD piece has a MEASURE of its own. */
        void gather(int shade, int lot, int piece) {
            if (gatheredSize < MOST_MEASURES) {
                gathered[gatheredSize] = (shade << SHADE_BITS) + (lot << LOT_BITS) + piece;
                gatheredSize++;
            }
        }

        /** They come by LOT and piece, so that putting them by SHADE, in the order they came, is enough. */
        private void putInOrder() {
            Arrays.fill(places, 0);
            for (int i = 0; i < gatheredSize; i++) {
                places[shadeOf(gathered[i]) + 1]++;
            }
            for (int shade = 1; shade <= GREATEST_SHADE; shade++) {
                places[shade] += places[shade - 1];
            }
            for (int i = 0; i < gatheredSize; i++) {
                int shade = shadeOf(gathered[i]);
                ordered[places[shade]] = gathered[i];
                places[shade]++;
            }
        }

        private static int shadeOf(int one) {
            return (one >>> SHADE_BITS) & GREATEST_SHADE;
        }

        /** Answers how many packs there are. */
        int formPacks(int pieces, int band) {
            putInOrder();
            int step = Math.max(1, pieces);
            int found = 0;
            int at = 0;
            while (at + step <= gatheredSize) {
                if (shadeOf(ordered[at + step - 1]) - shadeOf(ordered[at]) <= band) {
                    packBegins[found] = at;
                    found++;
                    at += step;
                } else {
                    at++;
                }
            }
            return found;
        }

        int packBegin(int pack) {
            return pack >= 0 && pack < packBegins.length ? packBegins[pack] : 0;
        }

        int lotOf(int i) {
            return i >= 0 && i < gatheredSize ? (ordered[i] >>> LOT_BITS) & PART : NONE;
        }

        int pieceOf(int i) {
            return i >= 0 && i < gatheredSize ? ordered[i] & PART : NONE;
        }
    }

    /** The PATTERN and the two PANELS. */
    private static final class Panels {
        static final int PANELS = 2;
        static final int WIDE = 12;
        static final int HIGH = 8;
        static final int MOST_W = 6;
        static final int MOST_H = 4;
        private static final int MOST_BURNS = 99;
        private final int[] heats = new int[MOST_W * MOST_H];
        private int w = 1;
        private int h = 1;
        private final int[][] burns = new int[PANELS][WIDE * HIGH];

        void beginPattern(int wide, int high) {
            w = wide;
            h = high;
            Arrays.fill(heats, 0);
        }

        boolean setHeat(int x, int y, int heat) {
            int place = y * MOST_W + x;
            boolean other = heats[place] != heat;
            heats[place] = heat;
            return other;
        }

        void burnOne(int panel, int x, int y) {
            int[] one = burns[panel];
            for (int j = 0; j < HIGH; j++) {
                for (int i = 0; i < WIDE; i++) {
                    int place = j * WIDE + i;
                    one[place] = Math.min(MOST_BURNS, one[place] + heatAt(i - x, j - y));
                }
            }
        }

        private int heatAt(int x, int y) {
            if (w <= 0 || h <= 0) {
                return 0;
            }
            return heats[Math.floorMod(y, h) * MOST_W + Math.floorMod(x, w)];
        }

        int unlike(int turn) {
            int found = 0;
            for (int j = 0; j < HIGH; j++) {
                int left = burns[0][j * WIDE + WIDE - 1];
                int right = burns[1][((j + turn) % HIGH) * WIDE];
                if (left != right) {
                    found++;
                }
            }
            return found;
        }

        int bestTurn() {
            int best = 0;
            for (int turn = 1; turn < HIGH; turn++) {
                if (unlike(turn) < unlike(best)) {
                    best = turn;
                }
            }
            return best;
        }
    }
}
