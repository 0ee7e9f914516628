/** Promises 22 to 26 and 31: banks, steering, meetings, a moored ship. */
public final class MeetingTest {
    private static final Due DUE = new Due();

    public static void main(String[] args) {
        banks();
        steered();
        may();
        meet();
        past();
        DUE.finish();
    }

    private static void banks() {
        DeepShip x = new DeepShip();
        x.ship(100, 20, 31);
        x.ship(100, 40, 1);
        DUE.due("drawn by 20, half of 31 is 15", x.bank(0, 1, 1), 0);
        DUE.due("drawn by 180 by 9, 20", x.bank(0, 3, 3), 0);
        DUE.due("drawn by 180 by 16, 11", x.bank(0, 3, 4), 1);
        DUE.due("drawn by 320 by 9, 35", x.bank(0, 4, 3), 0);
        DUE.due("drawn by 320 by 10.., 20 of 31", x.bank(0, 4, 4), 1);
        DUE.due("drawn by 500 by 16, 31 of 31", x.bank(0, 5, 4), 1);
        DUE.due("nearest(0, 5)", x.nearest(0, 5), 4);
        DUE.due("nearest(0, 1)", x.nearest(0, 1), 2);
        DUE.due("nearest(0, 3)", x.nearest(0, 3), 4);
        DUE.due("half of 1 is 0: 360 by 361", x.nearest(1, 3), 19);
        DUE.due("9000 by 4500 is 2, by 4624 1", x.nearest(1, 15), 68);
        DUE.due("bank(1, 15, 67)", x.bank(1, 15, 67), 0);
        DUE.due("bank(1, 15, 99)", x.bank(1, 15, 99), 1);
        int[][] bad = {{-1, 1, 1}, {2, 1, 1}, {0, 0, 1}, {0, 16, 1}, {0, 1, 0}, {0, 1, 100}};
        for (int[] call : bad) {
            DUE.due("bank", x.bank(call[0], call[1], call[2]), -1);
        }
        DUE.due("nearest(2, 1)", x.nearest(2, 1), -1);
        DUE.due("nearest(-1, 1)", x.nearest(-1, 1), -1);
        DUE.due("nearest(0, 0)", x.nearest(0, 0), -1);
        DUE.due("nearest(0, 16)", x.nearest(0, 16), -1);
    }

    private static void steered() {
        DeepShip x = new DeepShip();
        DUE.due("8 9 11 14 18 23 29 36 44", x.steered(0, 0), 8);
        DUE.due("gain 9: -17, -17 at first, 8, -9, -43", x.steered(9, 1), 2);
        DUE.due("gain 5: -9, -18, -27; 8, -1, -20, -49?", x.steered(5, 3), 3);
        DUE.due("gain 2, no lag", x.steered(2, 0), 0);
        DUE.due("steered(-1, 0)", x.steered(-1, 0), -1);
        DUE.due("steered(10, 0)", x.steered(10, 0), -1);
        DUE.due("steered(0, -1)", x.steered(0, -1), -1);
        DUE.due("steered(0, 6)", x.steered(0, 6), -1);
    }

    private static void may() {
        DeepShip x = new DeepShip();
        x.ship(100, 20, 30);
        x.ship(100, 11, 30);
        x.mile(100, 37);
        DUE.due("20 and 11 and 121 by 20", x.may(0, 1, 0, 5, 6), 1);
        DUE.due("20 and 11 and 144 by 20", x.may(1, 0, 0, 6, 6), 0);
        DUE.due("20 and 11 and 4 by 20", x.may(0, 1, 0, 1, 1), 1);
        x.make(0, 1, 76);
        DUE.due("20 and 11 and 900 by 20", x.may(0, 1, 0, 15, 15), 1);
        x.make(0, 1, 75);
        DUE.due("20 and 11 and 900 by 20", x.may(0, 1, 0, 15, 15), 0);
        int[][] bad = {{0, 0, 0, 1, 1}, {0, 2, 0, 1, 1}, {2, 0, 0, 1, 1}, {-1, 0, 0, 1, 1}, {0, -1, 0, 1, 1}, {0, 1, 1, 1, 1},
            {0, 1, -1, 1, 1}, {0, 1, 0, 0, 1}, {0, 1, 0, 16, 1}, {0, 1, 0, 1, 0}, {0, 1, 0, 1, 16}};
        for (int[] call : bad) {
            DUE.due("may", x.may(call[0], call[1], call[2], call[3], call[4]), -1);
        }
    }

    private static void meet() {
        DeepShip x = new DeepShip();
        x.ship(100, 20, 30);
        x.ship(100, 11, 30);
        DUE.due("meet, no miles", x.meet(0, 0, 1, 1, 0, 1), -2);
        DUE.due("meet of one, no miles", x.meet(0, 0, 1, 0, 0, 1), -1);
        for (int mile = 0; mile < 5; mile++) {
            x.mile(100, 40);
        }
        DUE.due("like paces meet in the middle", x.meet(0, 0, 6, 1, 0, 6), 2);
        DUE.due("the other one starts later", x.meet(0, 0, 6, 1, 19, 6), 3);
        DUE.due("the other one is still not there", x.meet(0, 0, 6, 1, 50, 6), -4);
        DUE.due("a minute earlier she is", x.meet(0, 0, 6, 1, 49, 6), 4);
        DUE.due("one starts when the other one is out", x.meet(0, 50, 6, 1, 0, 6), -4);
        DUE.due("one starts in the last minute of the other one", x.meet(0, 49, 6, 1, 0, 6), 0);
        DUE.due("at a border neither meets the other one", x.meet(0, 0, 6, 1, 10, 6), -4);
        DUE.due("the other one has passed mile 0 just now", x.meet(0, 50, 6, 1, 1, 5), 0);
        DUE.due("20 to 39 in mile 0, the other one 40 to 49", x.meet(0, 20, 3, 1, 0, 6), -4);
        DUE.due("21 to 40 in mile 0, the other one 40 to 49", x.meet(0, 21, 3, 1, 0, 6), 0);
        DUE.due("one is slow", x.meet(0, 0, 1, 1, 0, 15), 0);
        DUE.due("the other one is slow", x.meet(0, 0, 15, 1, 0, 1), 4);
        DUE.due("the last minutes of a day", x.meet(0, 1439, 6, 1, 1439, 6), 2);
        int[][] bad = {{-1, 0, 1, 1, 0, 1}, {2, 0, 1, 1, 0, 1}, {0, 0, 1, -1, 0, 1}, {0, 0, 1, 2, 0, 1}, {1, 0, 1, 1, 0, 1},
            {0, -1, 1, 1, 0, 1}, {0, 1440, 1, 1, 0, 1}, {0, 0, 0, 1, 0, 1}, {0, 0, 16, 1, 0, 1}, {0, 0, 1, 1, -1, 1},
            {0, 0, 1, 1, 1440, 1}, {0, 0, 1, 1, 0, 0}, {0, 0, 1, 1, 0, 16}};
        for (int[] call : bad) {
            DUE.due("meet", x.meet(call[0], call[1], call[2], call[3], call[4], call[5]), -1);
        }
    }

    private static void past() {
        DeepShip x = new DeepShip();
        x.ship(100, 20, 30);
        x.mile(100, 40);
        DUE.due("past, no quay", x.past(0, 0, 10), -2);
        x.make(0, 4, 7);
        DUE.due("180 by 7 is 25", x.past(0, 0, 25), 3);
        DUE.due("180 by 7 is 25", x.past(0, 0, 24), 2);
        DUE.due("20 by 7 is 2", x.past(0, 0, 2), 1);
        DUE.due("20 by 7 is 2", x.past(0, 0, 1), -4);
        DUE.due("4500 by 7 is 642", x.past(0, 0, 642), 15);
        DUE.due("4500 by 7 is 642", x.past(0, 0, 641), 14);
        DUE.due("past(0, 0, 999)", x.past(0, 0, 999), 15);
        x.make(0, 4, 40);
        DUE.due("20 by 40 is 0", x.past(0, 0, 0), 1);
        x.make(0, 4, 1);
        DUE.due("a quay at 1: 20", x.past(0, 0, 20), 1);
        DUE.due("past(0, 0, 1000)", x.past(0, 0, 1000), -1);
        DUE.due("past(0, 0, -1)", x.past(0, 0, -1), -1);
        DUE.due("past(1, 0, 0)", x.past(1, 0, 0), -1);
        DUE.due("past(-1, 0, 0)", x.past(-1, 0, 0), -1);
        DUE.due("past(0, 1, 0)", x.past(0, 1, 0), -1);
        DUE.due("past(0, -1, 0)", x.past(0, -1, 0), -1);
    }
}
