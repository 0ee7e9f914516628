/** Promises 13 to 18: the tide, water, how she sinks, what is under her, what must be, runs. */
public final class WaterTest {
    private static final Due DUE = new Due();

    public static void main(String[] args) {
        tide();
        water();
        sinksAndUnder();
        need();
        run();
        DUE.finish();
    }

    private static void tide() {
        DeepShip x = new DeepShip();
        x.height(0, 10);
        x.height(1, 3);
        x.height(23, 99);
        int[][] due = {{0, 10}, {8, 10}, {9, 9}, {59, 4}, {60, 3}, {80, 2}, {81, 2}, {100, 1}, {101, 1}, {119, 1}, {120, 0},
            {1380, 99}, {1381, 98}, {1439, 12}, {1440, 10}, {1440 + 59, 4}, {2880, 10}, {4000, 0}, {-1, -1}, {4001, -1}};
        for (int[] pair : due) {
            DUE.due("tide(" + pair[0] + ")", x.tide(pair[0]), pair[1]);
        }
        x.set(0, 90);
        DUE.due("tide(90) of a tide that is late", x.tide(90), 10);
        DUE.due("tide(30) of a tide that is late", x.tide(30), 99);
        DUE.due("tide(89) of a tide that is late", x.tide(89), 12);
        DUE.due("tide(0) of a tide that is late", x.tide(0), 49);
    }

    private static void water() {
        DeepShip x = new DeepShip();
        DUE.due("water(0, 0)", x.water(0, 0), -100001);
        x.mile(20, 10);
        x.height(0, 7);
        DUE.due("water(0, 0)", x.water(0, 0), 27);
        x.set(1, 9);
        DUE.due("water by wind 9", x.water(0, 0), 9);
        x.make(0, 3, 19);
        DUE.due("mud that is not soft", x.water(0, 0), 9);
        x.set(2, 5);
        DUE.due("mud by 5 tenths, cut", x.water(0, 0), 18);
        x.set(2, 10);
        DUE.due("mud by 10 tenths", x.water(0, 60), 21);
        DUE.due("water(0, -1)", x.water(0, -1), -100001);
        DUE.due("water(0, 4001)", x.water(0, 4001), -100001);
        DUE.due("water(1, 0)", x.water(1, 0), -100001);
        DUE.due("water(-1, 0)", x.water(-1, 0), -100001);
        DUE.due("water(0, 4000)", x.water(0, 4000), 21);
    }

    private static void sinksAndUnder() {
        DeepShip x = new DeepShip();
        x.mile(100, 40);
        x.ship(90, 20, 30);
        DUE.due("sinks(0, 0, 0, 8): 115200 by 12000", x.sinks(0, 0, 0, 8), 9);
        DUE.due("under(0, 0, 0, 8)", x.under(0, 0, 0, 8), 1);
        x.make(0, 2, 0);
        DUE.due("under in fresh water: 810 by 400", x.under(0, 0, 0, 8), -1);
        x.make(0, 2, 5);
        DUE.due("under at salt 5: 360 by 400", x.under(0, 0, 0, 8), 1);
        x.ship(100, 20, 30);
        DUE.due("under at salt 5: 400 by 400", x.under(1, 0, 0, 1), -1);
        x.set(1, 3);
        DUE.due("sinks by wind 3: 115200 by 11280", x.sinks(0, 0, 0, 8), 10);
        DUE.due("under by wind 3: 94 less 90, 10, 3", x.under(0, 0, 0, 8), -9);
        x.height(0, 20);
        DUE.due("sinks at high water: 115200 by 13680", x.sinks(0, 0, 0, 8), 8);
        DUE.due("under at high water", x.under(0, 0, 0, 8), 13);
        int[][] bad = {{-1, 0, 0, 8}, {2, 0, 0, 8}, {0, -1, 0, 8}, {0, 1, 0, 8}, {0, 0, -1, 8}, {0, 0, 4001, 8}, {0, 0, 0, 0}, {0, 0, 0, 16}};
        for (int[] call : bad) {
            DUE.due("sinks", x.sinks(call[0], call[1], call[2], call[3]), -1);
            DUE.due("under", x.under(call[0], call[1], call[2], call[3]), -100001);
        }
        x.make(0, 0, 20);
        x.make(0, 1, 10);
        x.set(1, 9);
        x.ship(200, 40, 1);
        DUE.due("the most that any ship sinks", x.sinks(2, 0, 4000, 15), 225 * 40 * 200 / (3 * 10 * 2));
        DUE.due("the least under any ship", x.under(2, 0, 4000, 15), 2 - 200 - 200 * 4 / 400 - 30000 - 18);
    }

    private static void need() {
        DeepShip x = new DeepShip();
        x.ship(119, 20, 30);
        DUE.due("need(0)", x.need(0), 5);
        x.set(4, 12);
        DUE.due("need(0)", x.need(0), 12);
        x.set(3, 1);
        DUE.due("need(0) by hundredths: 1428 by 100", x.need(0), 14);
        DUE.due("need(1)", x.need(1), -1);
        DUE.due("need(-1)", x.need(-1), -1);
    }

    private static void run() {
        DeepShip x = new DeepShip();
        x.ship(90, 20, 30);
        DUE.due("run without miles", x.run(0, 0, 0), -2);
        DUE.due("run, bad ahead of that", x.run(1, 0, 0), -1);
        x.mile(100, 40);
        x.mile(105, 40);
        x.mile(98, 40);
        x.mile(95, 40);
        x.set(4, 1);
        // Mile 2: 98 less 90 less 9 is below 0; mile 3, where still less is, is not come to.
        all(x, 2, 14, -1, 0);
        x.make(2, 0, 150);
        x.make(3, 0, 150);
        all(x, -4, 28, 1, 1);
        x.set(4, 2);
        all(x, -4, 28, 1, 0);
        x.make(0, 0, 99);
        all(x, -4, 28, 0, 0);
        x.set(4, 0);
        all(x, -4, 28, 0, 1);
        x.make(0, 0, 98);
        all(x, 0, 0, -1, 0);
        x.make(0, 0, 100);
        x.pace(0, 1);
        x.pace(1, 15);
        DUE.due("run touches at 1: 105 less 90, 32", x.run(0, 0, 0), 1);
        DUE.due("run takes 60 to there", x.run(0, 0, 1), 60);
        DUE.due("the least under", x.run(0, 0, 2), 100000 - 17);
        DUE.due("not by rule", x.run(0, 0, 3), 0);
        x.height(1, 40);
        DUE.due("at minute 60 the water is high", x.run(0, 0, 0), -4);
        DUE.due("she takes 60, 4, 7, 7", x.run(0, 0, 1), 78);
        DUE.due("the least under is that at mile 0", x.run(0, 0, 2), 100010);
        x.height(0, 30);
        DUE.due("she comes to mile 1 at minute 59 of the next day: 105 and 39 less 90, 23", x.run(0, 1439, 2), 100031);
        int[][] bad = {{-1, 0, 0}, {1, 0, 0}, {0, -1, 0}, {0, 1440, 0}, {0, 0, -1}, {0, 0, 4}};
        for (int[] call : bad) {
            DUE.due("run", x.run(call[0], call[1], call[2]), -1);
        }
    }

    private static void all(DeepShip x, int touches, int minutes, int under, int byRule) {
        DUE.due("run touches", x.run(0, 0, 0), touches);
        DUE.due("run takes", x.run(0, 0, 1), minutes);
        DUE.due("run has under it", x.run(0, 0, 2), 100000 + under);
        DUE.due("run by rule", x.run(0, 0, 3), byRule);
    }
}
