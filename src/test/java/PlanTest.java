/** Promises 19 to 21 and 27 to 30: the least time, starts, the deepest ship, days, dredging, what a rule costs, winds. */
public final class PlanTest {
    private static final Due DUE = new Due();

    public static void main(String[] args) {
        refusals();
        least();
        likePaces();
        slowest();
        starts();
        deepest();
        day();
        dredged();
        lost();
        touched();
        DUE.finish();
    }

    private static void refusals() {
        DeepShip x = new DeepShip();
        DUE.due("least, no ship, no miles", x.least(0, 0, -1), -1);
        DUE.due("starts, no ship, no miles", x.starts(0, 0), -1);
        DUE.due("deepest, no ship, no miles", x.deepest(0, 0), -1);
        DUE.due("dredged, no ship, no miles", x.dredged(0, 0, 0), -1);
        DUE.due("lost, no ship, no miles", x.lost(0, 0, 0, 0), -1);
        DUE.due("touched, no ship, no miles", x.touched(0, 0, 0), -1);
        DUE.due("day, no ship, no miles", x.day(1, 1, 0), -1);
        x.ship(90, 20, 30);
        DUE.due("least(0, 0, 15), no miles", x.least(0, 0, 15), -2);
        DUE.due("least(0, 0, 16), no miles", x.least(0, 0, 16), -1);
        DUE.due("least(0, 0, -2), no miles", x.least(0, 0, -2), -1);
        DUE.due("touched(0, 0, 15), no miles", x.touched(0, 0, 15), -2);
        DUE.due("touched(0, 0, 16), no miles", x.touched(0, 0, 16), -1);
        DUE.due("touched(0, 0, -1), no miles", x.touched(0, 0, -1), -1);
        DUE.due("starts(0, 0), no miles", x.starts(0, 0), -2);
        DUE.due("deepest(0, 0), no miles", x.deepest(0, 0), -2);
        DUE.due("dredged(0, 0, 1), no miles", x.dredged(0, 0, 1), -2);
        DUE.due("lost(0, 0, 1, 99), no miles", x.lost(0, 0, 1, 99), -2);
        DUE.due("day(1, 240, 5), no miles", x.day(1, 240, 5), -2);
        x.mile(20, 10);
        DUE.due("least(0, 0, 1), no such mile", x.least(0, 0, 1), -1);
        DUE.due("least(0, 0, 0), by no plan", x.least(0, 0, 0), -4);
        DUE.due("touched(0, 0, 1), no such mile", x.touched(0, 0, 1), -1);
        int[] minutes = {-1, 1440};
        for (int minute : minutes) {
            DUE.due("least", x.least(0, minute, -1), -1);
            DUE.due("deepest", x.deepest(0, minute), -1);
            DUE.due("dredged", x.dredged(0, minute, 0), -1);
            DUE.due("lost", x.lost(0, minute, 0, 0), -1);
            DUE.due("touched", x.touched(0, minute, 0), -1);
        }
        DUE.due("starts(0, 3)", x.starts(0, 3), -1);
        DUE.due("starts(0, -1)", x.starts(0, -1), -1);
        DUE.due("dredged(0, 0, 2)", x.dredged(0, 0, 2), -1);
        DUE.due("dredged(0, 0, -1)", x.dredged(0, 0, -1), -1);
        DUE.due("lost(0, 0, 2, 0)", x.lost(0, 0, 2, 0), -1);
        DUE.due("lost(0, 0, -1, 0)", x.lost(0, 0, -1, 0), -1);
        DUE.due("lost(0, 0, 0, 100)", x.lost(0, 0, 0, 100), -1);
        DUE.due("lost(0, 0, 0, -1)", x.lost(0, 0, 0, -1), -1);
    }

    private static void least() {
        DeepShip x = new DeepShip();
        x.ship(90, 20, 30);
        x.mile(100, 40);
        // Under is 10 less pace pace 1800 by 12000: 5 or more up to pace 6 (5.4, cut to 5).
        DUE.due("least(0, 0, -1)", x.least(0, 0, -1), 10);
        DUE.due("least(0, 0, 0)", x.least(0, 0, 0), 6);
        x.set(4, 6);
        DUE.due("least by 6", x.least(0, 0, 0), 5);
        x.set(4, 10);
        DUE.due("least by 10: 4 sinks 2.4, 2 sinks 0.6", x.least(0, 0, 0), 2);
        DUE.due("least by 10", x.least(0, 0, -1), 30);
        x.set(4, 11);
        DUE.due("least by 11", x.least(0, 0, -1), -4);
        x.set(4, 5);
        x.mile(94, 40);
        x.height(1, 60);
        DUE.due("least by a tide that grows", x.least(0, 0, -1), 10 + 7);
        DUE.due("pace in mile 0", x.least(0, 0, 0), 6);
        DUE.due("pace in mile 1: tide 10, 104 less 90, pace 8 sinks 9", x.least(0, 0, 1), 8);
        DeepShip y = new DeepShip();
        y.ship(90, 20, 30);
        y.mile(250, 99);
        y.mile(250, 99);
        y.mile(95, 40);
        y.height(0, 0);
        y.height(1, 60);
        y.height(2, 60);
        y.set(4, 25);
        // Mile 2 needs a tide of 20 and what she sinks, and the tide is the minute: she may come to it at 24 (pace 6,
        // 10 minutes), 26 (7, 8) or 27 (8, 7); of rows with the sum 34 the first is that of 20, 7, 7 minutes.
        DUE.due("least(0, 0, -1)", y.least(0, 0, -1), 34);
        DUE.due("pace in mile 0", y.least(0, 0, 0), 3);
        DUE.due("pace in mile 1", y.least(0, 0, 1), 8);
        DUE.due("pace in mile 2", y.least(0, 0, 2), 8);
    }

    private static void likePaces() {
        DeepShip x = new DeepShip();
        x.ship(20, 1, 30);
        for (int mile = 0; mile < 16; mile++) {
            x.mile(250, 99);
        }
        DUE.due("16 miles by 4 minutes", x.least(0, 1439, -1), 64);
        for (int mile = 0; mile < 16; mile++) {
            DUE.due("13 takes no more than 15", x.least(0, 1439, mile), 13);
        }
        x.set(4, 99);
        x.set(3, 1);
        DUE.due("starts", x.starts(0, 0), 1440);
        DUE.due("deepest: 126 and 124.74", x.deepest(0, 0), 126);
    }

    /** As slow as can be, through as many miles as can be, from the last minute on. */
    private static void slowest() {
        DeepShip x = new DeepShip();
        x.ship(90, 10, 30);
        for (int mile = 0; mile < 16; mile++) {
            x.mile(95, 10);
        }
        DUE.due("pace 2 sinks 1: 16 miles by 60 minutes", x.least(0, 1439, -1), 960);
        DUE.due("pace in the last mile", x.least(0, 1439, 15), 1);
        DUE.due("starts", x.starts(0, 0), 1440);
        DUE.due("the last start", x.starts(0, 2), 1439);
    }

    private static void starts() {
        DeepShip x = new DeepShip();
        x.ship(90, 20, 30);
        x.mile(90, 40);
        DUE.due("starts", x.starts(0, 0), 0);
        DUE.due("starts", x.starts(0, 1), -4);
        DUE.due("starts", x.starts(0, 2), -4);
        x.height(5, 60);
        // A tide of 5 or more at pace 1: from minute 245 to minute 355.
        DUE.due("starts", x.starts(0, 0), 111);
        DUE.due("starts", x.starts(0, 1), 245);
        DUE.due("starts", x.starts(0, 2), 355);
        x.set(0, 90);
        DUE.due("starts of a tide that is late", x.starts(0, 1), 335);
        x.image();
        x.set(0, 0);
        x.height(5, 0);
        DUE.due("starts without a tide", x.starts(0, 0), 0);
        x.restore();
        DUE.due("starts of a tide that is back", x.starts(0, 1), 335);
        Due.type(x, "0,0,60,0,0,0,0,0,0,0,0,0,0,0,0,0,0,0,0,0,0,0,0,0");
        DUE.due("tides()", x.tides(), 60);
        DUE.due("starts of a tide that is told as a text", x.starts(0, 1), 155);
        x.height(2, 0);
        x.set(0, 0);
        x.height(0, 60);
        DUE.due("starts round midnight", x.starts(0, 0), 55 + 56);
        DUE.due("starts round midnight", x.starts(0, 1), 0);
        DUE.due("starts round midnight", x.starts(0, 2), 1439);
        x.make(0, 0, 35);
        for (int what = 0; what < 3; what++) {
            DUE.due("one start alone, at minute 0", x.starts(0, what), what == 0 ? 1 : 0);
        }
        x.make(0, 0, 90);
        x.mile(90, 40);
        // She has to be over mile 1, too: 4 minutes ahead of the last minute at most, slower where it is low.
        DUE.due("the last start is that of the day", x.starts(0, 2), 1439);
        DUE.due("the last start of the forenoon", x.starts(0, 0) - (1440 - firstAfternoon(x)), lastForenoon(x) + 1);
    }

    private static int firstAfternoon(DeepShip x) {
        for (int minute = 720; minute < 1440; minute++) {
            if (x.least(0, minute, -1) >= 0) {
                return minute;
            }
        }
        return 1440;
    }

    private static int lastForenoon(DeepShip x) {
        for (int minute = 720; minute >= 0; minute--) {
            if (x.least(0, minute, -1) >= 0) {
                return minute;
            }
        }
        return -1;
    }

    private static void deepest() {
        DeepShip x = new DeepShip();
        x.ship(90, 20, 30);
        x.mile(100, 40);
        DUE.due("deepest: 95 and 5, pace 1 sinks 0", x.deepest(0, 0), 95);
        x.set(3, 1);
        DUE.due("deepest: 96 and 4.8", x.deepest(0, 0), 96);
        x.mile(20, 40);
        DUE.due("deepest: 20 and 1 are too much", x.deepest(0, 0), -4);
        x.make(1, 0, 21);
        DUE.due("deepest: 20 and 1", x.deepest(0, 0), 20);
        x.make(0, 0, 250);
        x.make(1, 0, 250);
        DUE.due("deepest: 200 at most", x.deepest(0, 0), 200);
        x.make(1, 0, 200);
        x.set(4, 0);
        x.height(0, 60);
        DUE.due("deepest at high water", x.deepest(0, 0), 200);
        DUE.due("deepest at low water, pace 1 sinks 0", x.deepest(0, 120), 200);
        x.make(1, 2, 0);
        DUE.due("deepest in fresh water: 196 and 4.41", x.deepest(0, 120), 196);
    }

    private static void day() {
        DeepShip x = new DeepShip();
        x.ship(90, 20, 30);
        x.ship(40, 20, 30);
        x.ship(90, 20, 30);
        x.mile(90, 40);
        x.height(5, 60);
        DUE.due("day(0, 1, 0)", x.day(0, 1, 0), -1);
        DUE.due("day(8, 1, 0)", x.day(8, 1, 0), -1);
        DUE.due("day(9, 1, 0)", x.day(9, 1, 0), -1);
        DUE.due("day(-1, 1, 0)", x.day(-1, 1, 0), -1);
        DUE.due("day(1, 0, 0)", x.day(1, 0, 0), -1);
        DUE.due("day(1, 241, 0)", x.day(1, 241, 0), -1);
        DUE.due("day(1, 1, -2)", x.day(1, 1, -2), -1);
        DUE.due("day(1, 1, 6)", x.day(1, 1, 6), -1);
        DUE.due("day(1, 1, 5)", x.day(1, 1, 5), -4);
        DUE.due("day(1, 1, -1)", x.day(1, 1, -1), 245);
        DUE.due("day(3, 1, -1)", x.day(3, 1, -1), 245);
        DUE.due("day(3, 1, 0)", x.day(3, 1, 0), 1);
        DUE.due("day(3, 1, 1)", x.day(3, 1, 1), 0);
        DUE.due("day(3, 1, 2)", x.day(3, 1, 2), -4);
        DUE.due("day(7, 110, -1): 0, 245, 355", x.day(7, 110, -1), 600);
        DUE.due("day(7, 110, 0)", x.day(7, 110, 0), 1);
        DUE.due("day(7, 110, 1)", x.day(7, 110, 1), 0);
        DUE.due("day(7, 110, 2)", x.day(7, 110, 2), 2);
        DUE.due("day(7, 111, -1)", x.day(7, 111, -1), -4);
        DUE.due("day(7, 111, 0)", x.day(7, 111, 0), -4);
        DUE.due("day(3, 240, -1)", x.day(3, 240, -1), 245);
        x.ship(20, 1, 1);
        x.ship(20, 1, 1);
        x.ship(20, 1, 1);
        DUE.due("six ships: 0, 1, 2, 3, 245, 246", x.day(63, 1, -1), 497);
        int[] order = {1, 3, 4, 5, 0, 2};
        for (int k = 0; k < 6; k++) {
            DUE.due("day(63, 1, " + k + ")", x.day(63, 1, k), order[k]);
        }
    }

    private static void dredged() {
        DeepShip x = new DeepShip();
        x.ship(90, 20, 30);
        x.mile(100, 40);
        x.mile(99, 40);
        // Mile 0: pace 6 (10 less 5); 101: pace 6 sinks 5, 7 sinks 7, no gain. Mile 1: pace 5 (9 less 3), then 6.
        DUE.due("least", x.least(0, 0, -1), 10 + 12);
        DUE.due("dredged", x.dredged(0, 0, 0), 1);
        DUE.due("dredged", x.dredged(0, 0, 1), 2);
        DUE.due("nothing stays dredged", x.least(0, 0, -1), 22);
        x.mile(99, 40);
        DUE.due("dredged: of like ones the first", x.dredged(0, 0, 0), 1);
        x.make(2, 0, 250);
        x.make(1, 0, 250);
        DUE.due("dredged: none saves", x.dredged(0, 0, 0), 0);
        DUE.due("dredged: none saves", x.dredged(0, 0, 1), 0);
        x.make(0, 0, 250);
        DUE.due("dredged: all 250", x.dredged(0, 0, 0), -4);
        DUE.due("dredged: all 250", x.dredged(0, 0, 1), -4);
        x.make(1, 0, 249);
        DUE.due("dredged: only 1 may be", x.dredged(0, 0, 0), 1);
        x.make(1, 0, 94);
        DUE.due("dredged: none as it is", x.dredged(0, 0, 1), -4);
    }

    private static void lost() {
        DeepShip x = new DeepShip();
        x.ship(90, 20, 30);
        x.mile(100, 40);
        // By 0: pace 8 sinks 9; by 5: pace 6; by 10 hundredths (9): pace 3 sinks 1.
        DUE.due("lost(0, 0, 0, 0)", x.lost(0, 0, 0, 0), 0);
        DUE.due("lost(0, 0, 1, 0)", x.lost(0, 0, 1, 0), 0);
        DUE.due("lost(0, 0, 0, 5)", x.lost(0, 0, 0, 5), 3);
        DUE.due("lost(0, 0, 1, 10)", x.lost(0, 0, 1, 10), 13);
        DUE.due("lost(0, 0, 0, 11)", x.lost(0, 0, 0, 11), -4);
        DUE.due("the rule stays", x.need(0), 5);
        x.make(0, 0, 89);
        DUE.due("lost: by no plan, either", x.lost(0, 0, 0, 0), -4);
    }

    private static void touched() {
        DeepShip x = new DeepShip();
        x.ship(90, 20, 30);
        x.mile(100, 40);
        x.mile(97, 40);
        x.pace(0, 5);
        x.pace(1, 5);
        // Mile 0 by wind w: 100 - 2w - 90 - 3 - w; mile 1: 97 - 2w - 90 - 3 - w.
        DUE.due("touched(0, 0, 0)", x.touched(0, 0, 0), 0b1111111000);
        DUE.due("touched(0, 0, 1)", x.touched(0, 0, 1), 0b0000000100);
        x.make(0, 0, 200);
        DUE.due("touched(0, 0, 0)", x.touched(0, 0, 0), 0);
        DUE.due("touched(0, 0, 1)", x.touched(0, 0, 1), 0b1111111100);
        x.height(0, 60);
        DUE.due("touched at high water", x.touched(0, 0, 1), 0);
        x.set(1, 4);
        DUE.due("the wind that is does not matter", x.touched(0, 720, 1), 0b1111111100);
        DUE.due("the wind that is stays", x.set(1, 4), 4);
    }
}
