/** Promises 9 to 11: the tape, channels and tides as texts, faults. */
public final class TextTest {
    private static final Due DUE = new Due();
    private static final String TIDE = "30,26,20,12,5,1,0,3,9,17,24,29,30,26,20,12,5,1,0,3,9,17,24,29";

    public static void main(String[] args) {
        tape();
        channelFaults();
        channels();
        tideFaults();
        tides();
        DUE.finish();
    }

    private static void tape() {
        DeepShip x = new DeepShip();
        DUE.due("type(49, 0)", x.type(49, 0), -1);
        DUE.due("type(49, 9)", x.type(49, 9), -1);
        DUE.due("type(49, -1)", x.type(49, -1), -1);
        DUE.due("type of 9 bytes", x.type(0x3131313131313131L, 9), -1);
        DUE.due("type of no byte", x.type(0x3131313131313131L, 0), -1);
        DUE.due("type of a byte 31", x.type(31, 1), -1);
        DUE.due("type of a byte 127", x.type(127, 1), -1);
        DUE.due("type of a byte 255", x.type(0x31FF31, 3), -1);
        DUE.due("type of a byte 0 ahead", x.type(49, 2), -1);
        DUE.due("type of a byte 32", x.type(32, 1), 1);
        DUE.due("type of a byte 126", x.type(126, 1), 2);
        DUE.due("bytes above the n lowest are free", x.type(0xFFFFFFFFFFFFFF31L, 1), 3);
        for (int size = 11; size <= 99; size += 8) {
            DUE.due("type of 8", x.type(0x3131313131313131L, 8), size);
        }
        DUE.due("type of 2 behind 99", x.type(0x3131, 2), -3);
        DUE.due("type of a bad one behind 99", x.type(0x3107, 2), -1);
        DUE.due("type of 1 behind 99", x.type(49, 1), 100);
        DUE.due("type of 1 behind 100", x.type(49, 1), -3);
        DUE.due("channel()", x.channel(), -21);
        DUE.due("the tape is empty then", x.type(49, 1), 1);
        DUE.due("tides()", x.tides(), -21);
        DUE.due("the tape is empty then", x.type(49, 1), 1);
    }

    private static void channelFaults() {
        String[] texts = {
            "", "x", "19w50", "251w50", "100", "100w", "100w9", "100w100", "100w50s", "100w50sx", "100w50m21",
            "100w50q41", "100w50;", "100w50q1m1", "100w50m1s1", "100w50s1s1", "100w50s12", "100w50s 1 2", "  ",
            " 1 00w50", "100 0w50", "100w5 0", "100w50;;", ";100w50", "99999999999w50", "4294967396w50",
            "100w50x", "100w50s9m20q40q", "100w50 ; 100 w 50 ; ", "100w50,100w50", "20w10;19w10", "100W50",
            "20w10;20w10;20w10;20w10;20w10;20w10;20w10;20w10;20w10", "100w50s", "100w50m", "100w50q", "100w50m-1"};
        int[] places = {
            0, 0, 0, 0, 3, 4, 4, 4, 7, 7, 7,
            7, 7, 8, 8, 8, 8, 10, 2,
            1, 4, 4, 7, 0, 0, 0,
            6, 14, 20, 6, 6, 3,
            47, 7, 7, 7, 7};
        DeepShip x = new DeepShip();
        x.mile(123, 45);
        x.pace(0, 3);
        for (int i = 0; i < texts.length; i++) {
            Due.type(x, texts[i]);
            DUE.due("channel of '" + texts[i] + "'", x.channel(), -20 - places[i]);
            DUE.due("type behind it", x.type(49, 1), 1);
            x.tides();
            DUE.due("that told stays", x.told(0, 0) * 1000 + x.told(0, 5) * 100 + x.count(0), 123301);
        }
    }

    private static void channels() {
        DeepShip x = new DeepShip();
        for (int mile = 0; mile < 10; mile++) {
            x.mile(200, 20);
            x.make(mile, 3, 7);
            x.pace(mile, 2);
        }
        Due.type(x, " 100 w 050 s 0 m 5 q 07 ; 120w60 ");
        DUE.due("channel()", x.channel(), 2);
        int[][] due = {{100, 50, 0, 5, 7, 8}, {120, 60, 9, 0, 0, 8}};
        check(x, due);
        DUE.due("count(0)", x.count(0), 2);
        DUE.due("mile(99, 11)", x.mile(99, 11), 2);
        check(x, new int[][] {due[0], due[1], {99, 11, 9, 0, 0, 8}});
        Due.type(x, "00000000020w99s5q40;250w10m20;30w30q0");
        DUE.due("channel()", x.channel(), 3);
        check(x, new int[][] {{20, 99, 5, 0, 40, 8}, {250, 10, 9, 20, 0, 8}, {30, 30, 9, 0, 0, 8}});
        Due.type(x, "20w10;20w10;20w10;20w10;20w10;20w10;20w10;20w10");
        DUE.due("channel()", x.channel(), 8);
        DUE.due("count(2)", x.count(2), 80);
    }

    private static void check(DeepShip x, int[][] due) {
        for (int mile = 0; mile < due.length; mile++) {
            for (int what = 0; what < 6; what++) {
                DUE.due("told(" + mile + ", " + what + ")", x.told(mile, what), due[mile][what]);
            }
        }
    }

    private static void tideFaults() {
        String[] texts = {"", " ", "1", "1,", "1,,", ",1", "100" + TIDE.substring(2), TIDE + ",1", TIDE + " 1", TIDE + ";",
            "1 2," + TIDE, "1;2", TIDE.substring(0, 58), "x" + TIDE, "0000000000100," + TIDE};
        int[] places = {0, 1, 1, 2, 2, 0, 0, 61, 62, 61, 2, 1, 58, 0, 0};
        DeepShip x = new DeepShip();
        x.height(0, 77);
        for (int i = 0; i < texts.length; i++) {
            Due.type(x, texts[i]);
            DUE.due("tides of '" + texts[i] + "'", x.tides(), -20 - places[i]);
            DUE.due("that told stays", x.tide(0), 77);
        }
        DUE.due("the tape is empty then", x.type(49, 1), 1);
    }

    private static void tides() {
        DeepShip x = new DeepShip();
        Due.type(x, TIDE);
        DUE.due("tides()", x.tides(), 30);
        String[] heights = TIDE.split(",");
        for (int hour = 0; hour < 24; hour++) {
            DUE.due("tide", x.tide(60 * hour), Integer.parseInt(heights[hour]));
        }
        Due.type(x, "0,0,0,0,0,0,0,0,0,0,0,0,0,0,0,0,0,0,0,0,0,0,0,0");
        DUE.due("tides()", x.tides(), 0);
        DUE.due("tide(0)", x.tide(0), 0);
        Due.type(x, " 1, 2 , 003,4,5,6,7,8,9,10,11,12,13,14,15,16,17,18,19,20,21,22,23, 0099 ");
        DUE.due("tides()", x.tides(), 99);
        DUE.due("tide(1380)", x.tide(1380), 99);
        DUE.due("tide(120)", x.tide(120), 3);
    }
}
