/** Promises 1 to 8 and 12: a new object, miles, the tide's heights, settings, ships, the plan, counts. */
public final class ChannelTest {
    private static final Due DUE = new Due();

    public static void main(String[] args) {
        newObject();
        miles();
        marks();
        heights();
        settings();
        ships();
        plan();
        DUE.finish();
    }

    private static void newObject() {
        DeepShip x = new DeepShip();
        DUE.due("count(0)", x.count(0), 0);
        DUE.due("count(1)", x.count(1), 0);
        DUE.due("count(2)", x.count(2), 0);
        DUE.due("count(3)", x.count(3), -1);
        DUE.due("count(-1)", x.count(-1), -1);
        DUE.due("told(0, 0)", x.told(0, 0), -1);
        DUE.due("need(0)", x.need(0), -1);
        DUE.due("tide(0)", x.tide(0), 0);
        DUE.due("restore()", x.restore(), -4);
        DUE.due("drop(0)", x.drop(0), -11);
        DUE.due("channel()", x.channel(), -20);
    }

    private static void miles() {
        DeepShip x = new DeepShip();
        DUE.due("mile(19, 10)", x.mile(19, 10), -1);
        DUE.due("mile(251, 10)", x.mile(251, 10), -1);
        DUE.due("mile(20, 9)", x.mile(20, 9), -1);
        DUE.due("mile(20, 100)", x.mile(20, 100), -1);
        DUE.due("mile(20, 10)", x.mile(20, 10), 0);
        DUE.due("mile(250, 99)", x.mile(250, 99), 1);
        int[] due = {250, 99, 9, 0, 0, 8};
        for (int what = 0; what < due.length; what++) {
            DUE.due("told(1, " + what + ")", x.told(1, what), due[what]);
        }
        DUE.due("count(2)", x.count(2), 109);
        for (int mile = 2; mile < 16; mile++) {
            DUE.due("mile(100, 50)", x.mile(100, 50), mile);
        }
        DUE.due("mile(100, 50)", x.mile(100, 50), -3);
        DUE.due("mile(19, 50) of a full channel", x.mile(19, 50), -1);
        DUE.due("count(0)", x.count(0), 16);
        DUE.due("count(2)", x.count(2), 109 + 14 * 50);
    }

    private static void marks() {
        DeepShip x = new DeepShip();
        x.mile(100, 50);
        x.mile(100, 50);
        int[] low = {20, 10, 0, 0, 0};
        int[] high = {250, 99, 9, 20, 40};
        int[] first = {100, 50, 9, 0, 0};
        for (int what = 0; what < 5; what++) {
            DUE.due("make low - 1", x.make(1, what, low[what] - 1), -1);
            DUE.due("make high + 1", x.make(1, what, high[what] + 1), -1);
            DUE.due("make low", x.make(1, what, low[what]), first[what]);
            DUE.due("make high", x.make(1, what, high[what]), low[what]);
            DUE.due("told", x.told(1, what), high[what]);
            DUE.due("told of the other mile", x.told(0, what), first[what]);
        }
        DUE.due("make(0, 5, 1)", x.make(0, 5, 1), -1);
        DUE.due("make(0, -1, 1)", x.make(0, -1, 1), -1);
        DUE.due("make(2, 0, 100)", x.make(2, 0, 100), -1);
        DUE.due("make(-1, 0, 100)", x.make(-1, 0, 100), -1);
        DUE.due("told(0, 6)", x.told(0, 6), -1);
        DUE.due("told(0, -1)", x.told(0, -1), -1);
        DUE.due("told(2, 0)", x.told(2, 0), -1);
        DUE.due("told(-1, 0)", x.told(-1, 0), -1);
    }

    private static void heights() {
        DeepShip x = new DeepShip();
        DUE.due("height(-1, 5)", x.height(-1, 5), -1);
        DUE.due("height(24, 5)", x.height(24, 5), -1);
        DUE.due("height(0, -1)", x.height(0, -1), -1);
        DUE.due("height(0, 100)", x.height(0, 100), -1);
        DUE.due("height(0, 99)", x.height(0, 99), 0);
        DUE.due("height(0, 40)", x.height(0, 40), 99);
        DUE.due("height(23, 20)", x.height(23, 20), 0);
        DUE.due("tide(0)", x.tide(0), 40);
        DUE.due("tide(1380)", x.tide(1380), 20);
        DUE.due("tide(1410): 23 goes over into 0", x.tide(1410), 30);
    }

    private static void settings() {
        DeepShip x = new DeepShip();
        int[] first = {0, 0, 0, 0, 5};
        int[] high = {90, 9, 10, 1, 99};
        for (int what = 0; what < 5; what++) {
            DUE.due("set high + 1", x.set(what, high[what] + 1), -1);
            DUE.due("set -1", x.set(what, -1), -1);
            DUE.due("set high", x.set(what, high[what]), first[what]);
            DUE.due("set 0", x.set(what, 0), high[what]);
        }
        DUE.due("set(5, 0)", x.set(5, 0), -1);
        DUE.due("set(-1, 0)", x.set(-1, 0), -1);
    }

    private static void ships() {
        DeepShip x = new DeepShip();
        int[][] bad = {{19, 1, 1}, {201, 1, 1}, {20, 0, 1}, {20, 41, 1}, {20, 1, 0}, {20, 1, 100}};
        for (int[] ship : bad) {
            DUE.due("ship", x.ship(ship[0], ship[1], ship[2]), -1);
        }
        DUE.due("ship(20, 1, 1)", x.ship(20, 1, 1), 0);
        DUE.due("ship(200, 40, 99)", x.ship(200, 40, 99), 1);
        for (int ship = 2; ship < 6; ship++) {
            DUE.due("ship(50, 5, 5)", x.ship(50, 5, 5), ship);
        }
        DUE.due("ship(50, 5, 5)", x.ship(50, 5, 5), -3);
        DUE.due("ship(19, 5, 5) of a full port", x.ship(19, 5, 5), -1);
        DUE.due("count(1)", x.count(1), 6);
    }

    private static void plan() {
        DeepShip x = new DeepShip();
        DUE.due("pace(0, 8)", x.pace(0, 8), -1);
        x.mile(100, 50);
        DUE.due("pace(0, 0)", x.pace(0, 0), -1);
        DUE.due("pace(0, 16)", x.pace(0, 16), -1);
        DUE.due("pace(-1, 8)", x.pace(-1, 8), -1);
        DUE.due("pace(0, 1)", x.pace(0, 1), 8);
        DUE.due("pace(0, 15)", x.pace(0, 15), 1);
        DUE.due("told(0, 5)", x.told(0, 5), 15);
    }
}
