/** Promises 32 to 38: images, gauges, sheets that may be missing. */
public final class SheetTest {
    private static final Due DUE = new Due();

    public static void main(String[] args) {
        images();
        imageIsACopy();
        gauged();
        gaugedRefusals();
        sheets();
        items();
        copies();
        DUE.finish();
    }

    private static void images() {
        DeepShip x = new DeepShip();
        DUE.due("restore()", x.restore(), -4);
        x.mile(100, 40);
        x.pace(0, 3);
        x.ship(100, 20, 30);
        x.height(0, 9);
        x.set(4, 7);
        x.sheet(0, 2, 3);
        x.type(49, 1);
        DUE.due("image()", x.image(), 1);
        x.mile(90, 30);
        x.make(0, 0, 50);
        x.pace(0, 4);
        x.ship(90, 20, 30);
        x.height(0, 20);
        for (int what = 0; what < 5; what++) {
            x.set(what, 1);
        }
        x.sheet(1, 1, 5);
        x.item(0, 2, 0, 30);
        x.type(50, 1);
        for (int again = 0; again < 2; again++) {
            DUE.due("restore()", x.restore(), 1);
            DUE.due("count(0)", x.count(0), 1);
            DUE.due("count(1)", x.count(1), 1);
            DUE.due("told(0, 0)", x.told(0, 0), 100);
            DUE.due("told(0, 5)", x.told(0, 5), 3);
            DUE.due("tide(0)", x.tide(0), 9);
            int[] settings = {0, 0, 0, 0, 7};
            for (int what = 0; what < 5; what++) {
                DUE.due("set(" + what + ", 0)", x.set(what, 0), settings[what]);
            }
            x.make(0, 0, 60);
        }
        DUE.due("the tape stays", x.type(51, 1), 3);
        DUE.due("sheets stay", x.drop(1), 5);
        DUE.due("sheets stay", x.drop(0), 3);
        DUE.due("image()", x.image(), 1);
        x.make(0, 0, 70);
        x.restore();
        DUE.due("a later image is in place of the first", x.told(0, 0), 60);
    }

    private static void imageIsACopy() {
        DeepShip x = new DeepShip();
        x.image();
        x.mile(100, 40);
        x.ship(100, 20, 30);
        DUE.due("restore()", x.restore(), 1);
        DUE.due("count(0)", x.count(0), 0);
        DUE.due("count(1)", x.count(1), 0);
        DUE.due("mile(50, 50)", x.mile(50, 50), 0);
        DUE.due("told(0, 0)", x.told(0, 0), 50);
        DUE.due("ship(20, 1, 1)", x.ship(20, 1, 1), 0);
        DUE.due("restore()", x.restore(), 1);
        DUE.due("told(0, 0)", x.told(0, 0), -1);
    }

    private static void gauged() {
        DeepShip x = new DeepShip();
        x.height(0, 60);
        x.height(1, 0);
        x.height(5, 30);
        x.sheet(2, 1, 24);
        put(x, 0, 100, 20);
        put(x, 2, 110, 10);
        put(x, 4, 1439, 59);
        // At minute 100 the tide is 20, if it is that of minute 40: 60 late.
        DUE.due("gauged: how many", x.gauged(2, 1, 0, 1, 0), 1);
        DUE.due("gauged: the least", x.gauged(2, 1, 0, 1, 1), 60);
        DUE.due("gauged: the greatest", x.gauged(2, 1, 0, 2, 2), 60);
        DUE.due("gauged: at 1439 the tide is 0 by 60", x.gauged(2, 1, 0, 3, 0), 0);
        DUE.due("gauged: none", x.gauged(2, 1, 0, 3, 1), -4);
        DUE.due("gauged: none", x.gauged(2, 1, 0, 3, 2), -4);
        put(x, 4, 300, 15);
        // At minute 300 it is 15 by that of minute 270, 271: 30, 29 late.
        DUE.due("gauged from item 4 on", x.gauged(2, 1, 4, 1, 0), 2);
        DUE.due("gauged from item 4 on", x.gauged(2, 1, 4, 1, 1), 29);
        DUE.due("gauged from item 4 on", x.gauged(2, 1, 4, 1, 2), 30);
        put(x, 4, 330, 15);
        DUE.due("gauged on both sides: of 270, 271, 330", x.gauged(2, 1, 4, 1, 0), 3);
        DUE.due("gauged on both sides", x.gauged(2, 1, 4, 1, 1), 0);
        DUE.due("gauged on both sides", x.gauged(2, 1, 4, 1, 2), 60);
        x.set(0, 45);
        DUE.due("how late it is does not matter", x.gauged(2, 1, 4, 1, 2), 60);
        DUE.due("how late it is stays", x.set(0, 0), 45);
        put(x, 4, 720, 0);
        DUE.due("by all of 0 .. 90", x.gauged(2, 1, 4, 1, 0), 91);
        DUE.due("by all of 0 .. 90", x.gauged(2, 1, 4, 1, 2), 90);
        put(x, 4, 720, -1);
        DUE.due("a height that can't be", x.gauged(2, 1, 4, 1, 0), 0);
    }

    private static void put(DeepShip x, int i, int minute, int height) {
        DUE.due("item", x.item(2, 1, i, minute), 1);
        DUE.due("item", x.item(2, 1, i + 1, height), 1);
    }

    private static void gaugedRefusals() {
        DeepShip x = new DeepShip();
        DUE.due("gauged(0, 0, 0, 1, 0)", x.gauged(0, 0, 0, 1, 0), -11);
        x.sheet(0, 0, 4);
        int[][] bad = {{-1, 0, 0, 1, 0}, {4, 0, 0, 1, 0}, {0, -1, 0, 1, 0}, {0, 3, 0, 1, 0}, {0, 0, 0, 0, 0}, {0, 0, 0, 9, 0},
            {0, 0, 0, 1, -1}, {0, 0, 0, 1, 3}, {1, 0, 0, 9, 0}, {0, 1, 0, 1, 3}};
        for (int[] call : bad) {
            DUE.due("gauged", x.gauged(call[0], call[1], call[2], call[3], call[4]), -1);
        }
        DUE.due("gauged: cast ahead of index", x.gauged(0, 1, -1, 1, 0), -12);
        DUE.due("gauged: index", x.gauged(0, 0, -1, 1, 0), -13);
        DUE.due("gauged: index", x.gauged(0, 0, 3, 1, 0), -13);
        DUE.due("gauged: index", x.gauged(0, 0, 0, 3, 0), -13);
        DUE.due("gauged: index", x.gauged(0, 0, Integer.MAX_VALUE, 8, 0), -13);
        DUE.due("gauged: the last pair", x.gauged(0, 0, 2, 1, 0), 91);
        x.item(0, 0, 2, 200);
        DUE.due("gauged: 200 is -56 as a byte, no minute", x.gauged(0, 0, 0, 2, 0), -2);
        DUE.due("gauged: that pair is not taken", x.gauged(0, 0, 0, 1, 0), 91);
        x.sheet(0, 2, 2);
        x.item(0, 2, 0, 1439);
        DUE.due("gauged: minute 1439", x.gauged(0, 2, 0, 1, 0), 91);
        x.item(0, 2, 0, 1440);
        DUE.due("gauged: minute 1440", x.gauged(0, 2, 0, 1, 1), -2);
    }

    private static void sheets() {
        DeepShip x = new DeepShip();
        DUE.due("sheet(-1, 0, 1)", x.sheet(-1, 0, 1), -1);
        DUE.due("sheet(4, 0, -1)", x.sheet(4, 0, -1), -1);
        DUE.due("sheet(0, -1, 1)", x.sheet(0, -1, 1), -1);
        DUE.due("sheet(0, 3, -1)", x.sheet(0, 3, -1), -1);
        DUE.due("sheet(0, 0, 25)", x.sheet(0, 0, 25), -1);
        DUE.due("sheet(0, 0, -1)", x.sheet(0, 0, -1), -14);
        DUE.due("there is none yet", x.drop(0), -11);
        DUE.due("sheet(0, 0, 0)", x.sheet(0, 0, 0), 0);
        DUE.due("drop(0)", x.drop(0), 0);
        DUE.due("drop(0)", x.drop(0), -11);
        DUE.due("sheet(3, 2, 24)", x.sheet(3, 2, 24), 24);
        DUE.due("sheet(3, 2, -5) changes nothing", x.sheet(3, 2, -5), -14);
        DUE.due("drop(3)", x.drop(3), 24);
        DUE.due("drop(4)", x.drop(4), -1);
        DUE.due("drop(-1)", x.drop(-1), -1);
        x.sheet(0, 2, 2);
        x.item(0, 2, 0, 5000);
        x.sheet(0, 2, 2);
        DUE.due("a new row has 0 in it", x.gauged(0, 2, 0, 1, 0), 91);
    }

    private static void items() {
        DeepShip x = new DeepShip();
        x.height(1, 60);
        x.sheet(0, 0, 3);
        x.sheet(1, 1, 3);
        x.sheet(2, 2, 3);
        DUE.due("item(-1, 0, 0, 0)", x.item(-1, 0, 0, 0), -1);
        DUE.due("item(4, 0, 0, 0)", x.item(4, 0, 0, 0), -1);
        DUE.due("item(0, 3, 0, 0)", x.item(0, 3, 0, 0), -1);
        DUE.due("item(0, -1, 0, 0)", x.item(0, -1, 0, 0), -1);
        DUE.due("item(3, 0, 0, 0)", x.item(3, 0, 0, 0), -11);
        DUE.due("item(0, 1, 9, 0)", x.item(0, 1, 9, 0), -12);
        DUE.due("item(0, 0, 3, 0)", x.item(0, 0, 3, 0), -13);
        DUE.due("item(0, 0, -1, 0)", x.item(0, 0, -1, 0), -13);
        // Minute 44 is 300 less 256, and 65580 less 65536; the tide of minute 44 is that of no other late.
        int[] v = {300, 65580, 44};
        for (int lane = 0; lane < 3; lane++) {
            DUE.due("item", x.item(lane, lane, 1, v[lane]), 1);
            DUE.due("item", x.item(lane, lane, 2, 44 + (lane == 0 ? 256 : 0)), 1);
        }
        DUE.due("bytes", x.gauged(0, 0, 1, 1, 2), 0);
        DUE.due("shorts", x.gauged(1, 1, 1, 1, 2), 0);
        DUE.due("ints", x.gauged(2, 2, 1, 1, 2), 0);
        x.item(2, 2, 1, 65580);
        DUE.due("ints are not cut", x.gauged(2, 2, 1, 1, 2), -2);
        x.item(1, 1, 1, 40000);
        DUE.due("shorts have a sign", x.gauged(1, 1, 1, 1, 2), -2);
    }

    private static void copies() {
        DeepShip x = new DeepShip();
        x.sheet(0, 2, 6);
        x.sheet(1, 2, 4);
        x.sheet(2, 1, 6);
        DUE.due("copy: bad", x.copy(-1, 0, 0, 0, 1), -1);
        DUE.due("copy: bad", x.copy(0, 0, 4, 0, 1), -1);
        DUE.due("copy: bad ahead of null", x.copy(3, 0, 4, 0, 1), -1);
        DUE.due("copy: null", x.copy(3, 0, 0, 0, 1), -11);
        DUE.due("copy: null ahead of index", x.copy(0, 0, 3, 0, -1), -11);
        DUE.due("copy: cast ahead of index", x.copy(0, 9, 2, 9, -1), -12);
        int[][] out = {{-1, 0, 1}, {0, -1, 1}, {0, 0, -1}, {6, 0, 1}, {0, 4, 1}, {5, 0, 2}, {0, 3, 2}, {0, 0, 5}, {7, 0, 0}, {0, 5, 0},
            {-1, 0, 0}, {0, -1, 0}, {Integer.MAX_VALUE, 0, 1}, {0, Integer.MAX_VALUE, 1}, {0, 0, Integer.MAX_VALUE}, {1, 0, Integer.MAX_VALUE}};
        for (int[] call : out) {
            DUE.due("copy: index", x.copy(0, call[0], 1, call[1], call[2]), -13);
        }
        DUE.due("copy of none", x.copy(0, 6, 1, 4, 0), 0);
        for (int i = 0; i < 6; i++) {
            x.item(0, 2, i, 100 + i);
        }
        DUE.due("copy to another one", x.copy(0, 2, 1, 1, 3), 3);
        row(x, 1, 0, 102, 103, 104);
        DUE.due("copy up in the same one", x.copy(0, 0, 0, 1, 5), 5);
        row(x, 0, 100, 100, 101, 102, 103, 104);
        DUE.due("copy down in the same one", x.copy(0, 2, 0, 0, 4), 4);
        row(x, 0, 101, 102, 103, 104, 103, 104);
    }

    /** Items can't be told; but from minute 60 to 120 the tide grows by 1 a minute, so that late 0 fits one item alone. */
    private static void row(DeepShip x, int sheet, int... due) {
        x.sheet(3, 2, 2);
        x.height(2, 60);
        for (int i = 0; i < due.length; i++) {
            x.copy(sheet, i, 3, 0, 1);
            x.item(3, 2, 1, x.tide(due[i]));
            DUE.due("late by item " + i + " of sheet " + sheet + ", which is " + due[i], x.gauged(3, 2, 0, 1, 1), 0);
        }
    }
}
