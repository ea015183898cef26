/** Promise 43: count, of all that can be counted, each made to differ from the others. */
final class CountTest {
    public static void main(String[] args) {
        TrouserWash x = new TrouserWash();
        x.cloth(100, 80, 0);
        x.cloth(90, 80, 0);
        Check.recipe(x, "wash 1;wash 1;rinse");
        for (int i = 0; i < 7; i++) {
            x.batch(0);
        }
        for (int i = 0; i < 4; i++) {
            x.tank(100);
        }
        x.pour(3, 150, 90);
        x.draw(10, 100);
        x.draw(500, 0);
        for (int i = 0; i < 12; i++) {
            x.garment(5);
        }
        Check.house(x, "pack 1;pack 1;pack 1;pack 1;pack 1;pack 1");
        x.machine(8);
        x.lot(0, 3, 0, 0, 255, 0, 0);
        x.lot(1, 3, 0, 0, 255, 0, 5);
        for (int i = 0; i < 9; i++) {
            x.lot(0, 8, 0, 0, 255, 0, 0);
        }
        for (int i = 0; i < 8; i++) {
            x.load(i, 0);
        }
        x.days(13);
        x.measure(0, 0, 98);
        x.measure(0, 1, 100);
        x.measure(0, 2, 101);
        x.measure(1, 0, 90);
        x.measure(1, 0, 91);
        x.deliver(0, 2);
        x.deliver(1, 1);
        int pieces = 6 + 6 * 8;
        int[] due = {2, 3, 7, 4, 500 + 15 * pieces, 50 + 15 * pieces, 54, 6, 30 + 3 * pieces, 12, 13, 1, 11, 8, 5, 2,
                3, 3, 6};
        for (int what = 0; what < due.length; what++) {
            Check.is("count(" + what + ")", x.count(what), due[what]);
        }
        for (int what : new int[] {-1, 19, 100, Integer.MIN_VALUE, Integer.MAX_VALUE}) {
            Check.is("count(" + what + ")", x.count(what), -1);
        }
        Check.is("NONE", TrouserWash.NONE, -1);
        Check.done("CountTest");
    }
}
