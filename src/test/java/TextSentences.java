/** Promises 9 to 11, and what the terms say of texts and their faults. */
final class TextSentences {
    private static final int TERMS = Sentences.TERMS;
    private static final String EIGHT = "20w10;20w10;20w10;20w10;20w10;20w10;20w10;20w10";
    private static final String TIDE = "30,26,20,12,5,1,0,3,9,17,24,29,30,26,20,12,5,1,0,3,9,17,24,29";
    private final Sentences s;

    TextSentences(Sentences sentences) {
        s = sentences;
    }

    void all() {
        type();
        fullTape();
        miles();
        marks();
        inPlace();
        tides();
        faults();
        numbers();
        channel();
        tidesCall();
    }

    /** A channel of one mile with a pace of its own, a tide with a height at hour 0. */
    private Tried told() {
        return s.fresh().made("mile", 123, 45).made("pace", 0, 3).made("height", 0, 77);
    }

    private void reads(int miles, String text) {
        told().types(text).is(miles, "channel").is(1, "type", ' ', 1).is(miles, "count", 0);
    }

    private void fault(int place, String text) {
        Tried t = told().types(text).is(-20 - place, "channel");
        t.is(1, "type", ' ', 1).is(1, "count", 0).is(123, "told", 0, 0).is(45, "told", 0, 1).is(3, "told", 0, 5).is(77, "tide", 0);
    }

    private void tideFault(int place, String text) {
        told().types(text).is(-20 - place, "tides").is(1, "type", ' ', 1).is(77, "tide", 0).is(0, "tide", 60).is(123, "told", 0, 0);
    }

    private void mile(String text, int... due) {
        Tried t = told().types(text).is(1, "channel");
        for (int what = 0; what < due.length; what++) t.is(due[what], "told", 0, what);
    }

    private static String blanks(int n) {
        return " ".repeat(n);
    }

    private void type() {
        s.says(9, "The n lowest bytes (1 .. 8) of w, of these the highest first, come behind THE TAPE: how many it has.");
        s.fresh().is(1, "type", '1', 1).is(9, "type", Due.word("20w45s7m"), 8).is(10, "type", '5', 1).is(1, "channel").is(120, "told", 0, 0)
            .is(45, "told", 0, 1)
            .is(7, "told", 0, 2).is(5, "told", 0, 3);
        for (int n = 1; n <= 8; n++) {
            long above = n == 8 ? 0 : -1L << 8 * n;
            s.fresh().is(n, "type", above | Due.word("20w10s00".substring(0, n)), n).is(n + 1, "type", ' ', 1);
        }
        s.fresh().is(6, "type", 0x3939L << 48 | Due.word("100w50"), 6).is(1, "channel").is(100, "told", 0, 0).is(50, "told", 0, 1);
        s.says(9, "BAD: n, a byte not 32 .. 126;");
        long ones = 0x3131313131313131L;
        Tried t = s.fresh().types("100w50").bounds(1, 8, 1, "type", ones, 0);
        for (int place = 0; place < 8; place++) {
            long free = ones & ~(255L << 8 * place);
            for (long bad : new long[] {0, 31, 127, 128, 255}) t.keeps(-1, "type", free | bad << 8 * place, 8);
            t.again().is(14, "type", free | 32L << 8 * place, 8);
            t.again().is(14, "type", free | 126L << 8 * place, 8);
            // The bytes above those that are taken may be any.
            if (place > 0) t.again().is(6 + place, "type", free | 255L << 8 * place, place);
        }
        t.keeps(-1, "type", 49, 2).keeps(-1, "type", -1, 8).keeps(-1, "type", 0, 1).keeps(-1, "type", Long.MIN_VALUE, 8);
    }

    private void fullTape() {
        s.says(9, "FULL: 100.");
        for (int n = 1; n <= 8; n++) {
            Tried t = s.fresh().types("100w50" + blanks(94 - n)).is(100, "type", Due.word(blanks(n)), n);
            t.keeps(-3, "type", ' ', 1).keeps(-3, "type", Due.word(blanks(n)), n).is(1, "channel").is(100, "told", 0, 0);
            t.is(n, "type", Due.word(blanks(n)), n);
            Tried over = s.fresh().types("100w50" + blanks(95 - n)).keeps(-3, "type", Due.word(blanks(n)), n);
            over.keeps(-1, "type", Due.word(blanks(n - 1)) << 8 | 31, n).keeps(-1, "type", ' ', 9);
            if (n > 1) over.is(100, "type", Due.word(blanks(n - 1)), n - 1);
        }
    }

    private void miles() {
        s.says(TERMS, "A CHANNEL is a TEXT: 1 to 8 MILES with ; between:");
        fault(0, "");
        reads(1, "20w10");
        reads(7, EIGHT.substring(6));
        reads(8, EIGHT);
        fault(47, EIGHT + ";");
        fault(47, EIGHT + ";20w10");
        fault(48, EIGHT + " ;20w10");
        fault(0, ";20w10");
        fault(6, "20w10;");
        fault(6, "20w10;;20w10");
        fault(5, "20w10,20w10");
        fault(6, "20w10 20w10");
    }

    private void marks() {
        s.says(TERMS, "a number (DEPTH),");
        mile("20w50", 20, 50, 9, 0, 0, 8);
        mile("250w50", 250, 50, 9, 0, 0, 8);
        fault(0, "19w50");
        fault(0, "251w50");
        fault(0, "w50");
        fault(0, "0w50");
        fault(6, "20w10;19w10");
        s.says(TERMS, "w and a number (WIDTH),");
        mile("100w10", 100, 10, 9, 0, 0, 8);
        mile("100w99", 100, 99, 9, 0, 0, 8);
        fault(4, "100w9");
        fault(4, "100w100");
        fault(4, "100w");
        fault(3, "100");
        fault(4, "100ww50");
        fault(3, "100W50");
        fault(3, "100s5");
        s.says(TERMS, "then perhaps s and a digit (SALT),");
        mile("100w50s0", 100, 50, 0, 0, 0, 8);
        mile("100w50s9", 100, 50, 9, 0, 0, 8);
        fault(8, "100w50s10");
        fault(8, "100w50s00");
        fault(9, "100w50s1 0");
        fault(7, "100w50s");
        fault(7, "100w50sm1");
        fault(8, "100w50s1s1");
        s.says(TERMS, "m and a number (MUD),");
        mile("100w50m0", 100, 50, 9, 0, 0, 8);
        mile("100w50m20", 100, 50, 9, 20, 0, 8);
        mile("100w50s3m20", 100, 50, 3, 20, 0, 8);
        fault(7, "100w50m21");
        fault(7, "100w50m");
        fault(8, "100w50m1s1");
        fault(8, "100w50m1m1");
        s.says(TERMS, "q and a number (QUAY):");
        mile("100w50q1", 100, 50, 9, 0, 1, 8);
        mile("100w50q40", 100, 50, 9, 0, 40, 8);
        mile("100w50s3q40", 100, 50, 3, 0, 40, 8);
        mile("100w50m4q40", 100, 50, 9, 4, 40, 8);
        mile("100w50s2m4q6", 100, 50, 2, 4, 6, 8);
        fault(7, "100w50q41");
        fault(7, "100w50q");
        fault(8, "100w50q1m1");
        fault(8, "100w50q1s1");
        fault(8, "100w50q1q1");
    }

    private void inPlace() {
        s.says(TERMS, "in place of those told.");
        Tried t = s.fresh().made("ship", 90, 20, 30).made("height", 5, 55).made("set", 4, 44);
        for (int mile = 0; mile < 16; mile++) t.made("mile", 200, 20).made("make", mile, 2, 1).made("make", mile, 3, 2)
            .made("make", mile, 4, 3);
        t.types("100w50").is(1, "channel").is(1, "count", 0).is(50, "count", 2).is(-1, "told", 1, 0);
        int[] due = {100, 50, 9, 0, 0, 8};
        for (int what = 0; what < 6; what++) t.is(due[what], "told", 0, what);
        t.is(1, "count", 1).is(55, "tide", 300).is(44, "need", 0);
        int[] next = {60, 30, 9, 0, 0, 8};
        t.is(1, "mile", 60, 30);
        for (int what = 0; what < 6; what++) t.is(next[what], "told", 1, what);
        t.types(EIGHT).is(8, "channel").is(80, "count", 2).is(8, "mile", 60, 30);
    }

    private void tides() {
        s.says(TERMS, "A TIDE is a TEXT: 24 numbers (0 .. 99) with , between.");
        Tried t = told().types(TIDE).is(30, "tides");
        String[] heights = TIDE.split(",");
        for (int hour = 0; hour < 24; hour++) t.is(Integer.parseInt(heights[hour]), "tide", 60 * hour);
        String ones = "1,".repeat(23) + "1";
        told().types(ones).is(1, "tides");
        tideFault(45, ones.substring(0, 45));
        tideFault(46, ones.substring(0, 46));
        tideFault(47, ones + ",");
        tideFault(47, ones + ",1");
        tideFault(48, ones + " 1");
        tideFault(47, ones + ";");
        tideFault(0, "," + ones);
        tideFault(1, "1;" + ones);
        tideFault(2, "1,," + ones);
        tideFault(0, "");
        told().types("0," + ones.substring(2)).is(1, "tides").is(0, "tide", 0);
        told().types("99," + ones.substring(2)).is(99, "tides").is(99, "tide", 0);
        tideFault(0, "100," + ones.substring(2));
        told().types(ones.substring(0, 46) + "0").is(1, "tides").is(0, "tide", 1380);
        told().types(ones.substring(0, 46) + "99").is(99, "tides").is(99, "tide", 1380);
        tideFault(46, ones.substring(0, 46) + "100");
        tideFault(46, ones.substring(0, 46) + "-1");
        told().types("0,".repeat(23) + "0").is(0, "tides").is(0, "tide", 0);
    }

    private void faults() {
        s.says(TERMS, "FAULTS: -20 less the place of the first byte (behind blanks) that can't stand there");
        fault(0, "x");
        fault(1, " x");
        fault(5, "     x");
        fault(3, "100x");
        fault(4, "100 x");
        fault(6, "100w50x");
        fault(9, "100w50   x");
        // Of several the first: a number that may not be ahead of a sign, a sign ahead of a number.
        fault(0, "19w9");
        fault(4, "100w9s");
        fault(3, "100x9");
        fault(7, "100w50sx19");
        tideFault(0, "x");
        tideFault(2, "  x");
        tideFault(1, "1x");
        tideFault(2, "1 x");
        tideFault(2, "1,x");
        tideFault(3, "1, x");
        tideFault(0, "100x");
        s.says(TERMS, "(the end: how many bytes there are);");
        fault(0, "");
        fault(1, " ");
        fault(2, "  ");
        fault(3, "100");
        fault(5, "100  ");
        fault(5, "100w ");
        fault(8, "100w50; ");
        fault(8, "100w50s ");
        fault(100, blanks(100));
        fault(100, "100w50;" + blanks(93));
        fault(100, "100w50" + blanks(93) + ";");
        fault(100, "100w50" + blanks(93) + "s");
        fault(100, "100w50" + blanks(93) + "m");
        fault(100, "100w50" + blanks(93) + "q");
        fault(100, blanks(96) + "100w");
        fault(100, blanks(97) + "100");
        reads(1, "100w50" + blanks(94));
        // Nothing of a longer text that was read ahead of it stands behind the end.
        told().types("100w50s5m6q7;100w50").is(2, "channel").types("100w50s").is(-27, "channel").types("100w50s5m").is(-29, "channel")
            .types("100w").is(-24, "channel")
            .types("100w50s5m6q7;").is(-33, "channel").is(-20, "channel").is(2, "count", 0).types("100w50s5").is(1, "channel")
                .is(0, "told", 0, 3);
        told().types(TIDE).is(30, "tides").types(TIDE.substring(0, 58)).is(-78, "tides").types(TIDE.substring(0, 59)).is(-79, "tides")
            .is(29, "tide", 1380);
        tideFault(0, "");
        tideFault(2, "  ");
        tideFault(3, "1, ");
        tideFault(100, blanks(100));
        tideFault(99, blanks(98) + "1");
        s.says(TERMS, "bytes 32 count for nothing, but end a number;");
        mile("  100  w  50  s  3  m  4  q  5  ", 100, 50, 3, 4, 5, 8);
        told().types(" 20w10 ; 30 w10 ").is(2, "channel").is(30, "told", 1, 0);
        // 1, 10 and 5 are numbers by themselves, which may not be.
        fault(0, "1 00w50");
        fault(0, "10 0w50");
        fault(4, "100w5 0");
        fault(4, "100 0w50");
        fault(6, "20w10 0");
        fault(9, "20w10m1  20");
        told().types(" 9 , 8 ," + "1 , ".repeat(21) + "7 ").is(9, "tides").is(8, "tide", 60).is(7, "tide", 1380);
        tideFault(2, "1 2," + "1,".repeat(22) + "1");
    }

    private void numbers() {
        s.says(TERMS, "a number may have 0s ahead;");
        mile("0100w050m007q0008", 100, 50, 9, 7, 8, 8);
        mile("0".repeat(80) + "20w10", 20, 10, 9, 0, 0, 8);
        mile("100w50m" + "0".repeat(80), 100, 50, 9, 0, 0, 8);
        told().types("0".repeat(40) + "99,00," + "1,".repeat(21) + "1").is(99, "tides").is(99, "tide", 0).is(0, "tide", 60);
        s.says(TERMS, "of a number that may not be its first byte.");
        fault(0, "0019w50");
        fault(2, "  251w50");
        fault(0, "999999999999999w50");
        // 2 to the 32nd and 100: a number that would wrap round to 100; 2 to the 64th and 100 likewise.
        fault(0, "4294967396w50");
        fault(0, "18446744073709551716w50");
        fault(0, "2147483748w50");
        fault(0, "1000w50");
        fault(0, "1020w50");
        fault(4, "100w4294967346");
        fault(4, "100w050000");
        fault(7, "100w50m4294967297");
        fault(7, "100w50q4294967297");
        fault(0, "9".repeat(100));
        tideFault(0, "4294967297," + "1,".repeat(22) + "1");
        tideFault(2, "1,100,");
        tideFault(2, "1,00000100,");
    }

    private void channel() {
        s.says(10, "THE TAPE, which is empty then (by a FAULT, too), is a CHANNEL:");
        s.fresh().is(-20, "channel").types("100w50").is(1, "channel").is(-20, "channel").types("200").is(-23, "channel")
            .is(1, "type", '2', 1);
        s.fresh().types("100w50").is(-20, "tides").is(-20, "channel").is(0, "count", 0);
        s.says(10, "how many MILES (PACES 8 each).");
        Tried t = s.fresh().made("mile", 100, 50).made("mile", 100, 50).made("pace", 0, 1).made("pace", 1, 15);
        t.types("100w50").is(1, "channel").is(8, "told", 0, 5).is(-1, "told", 1, 5).is(1, "mile", 100, 50).is(8, "told", 1, 5);
        t.made("pace", 1, 15).types(EIGHT).is(8, "channel");
        for (int mile = 0; mile < 8; mile++) t.is(8, "told", mile, 5);
        s.says(10, "A FAULT (that told stays).");
        Tried faulty = s.fresh().made("mile", 123, 45).made("make", 0, 2, 1).made("make", 0, 3, 2).made("make", 0, 4, 3).made("pace", 0, 4);
        int[] due = {123, 45, 1, 2, 3, 4};
        // Seven miles are right ahead of the fault.
        faulty.types(EIGHT.substring(0, 41) + ";20w9").is(-20 - 45, "channel").is(1, "count", 0);
        for (int what = 0; what < 6; what++) faulty.is(due[what], "told", 0, what);
        faulty.is(-20, "channel").is(1, "count", 0);
    }

    private void tidesCall() {
        s.says(11, "THE TAPE, which is empty then (by a FAULT, too), is a TIDE:");
        s.fresh().types(TIDE).is(30, "tides").is(-20, "tides").is(1, "type", '1', 1).is(-21, "tides").is(1, "type", '1', 1);
        s.fresh().types(TIDE).is(-22, "channel").is(-20, "tides").is(0, "tide", 0);
        s.says(11, "its greatest height.");
        String ones = "1,".repeat(23) + "1";
        for (int hour = 0; hour < 24; hour++) {
            s.fresh().types(ones.substring(0, 2 * hour) + "42" + ones.substring(2 * hour + 1)).is(42, "tides").is(42, "tide", 60 * hour);
        }
        s.fresh().types("0,".repeat(23) + "0").is(0, "tides");
        s.fresh().types("99,".repeat(23) + "99").is(99, "tides");
        s.says(11, "A FAULT (that told stays).");
        Tried t = s.fresh();
        for (int hour = 0; hour < 24; hour++) t.made("height", hour, 50 + hour);
        // 23 heights are right ahead of the fault.
        t.types("1,".repeat(23) + "100").is(-66, "tides");
        for (int hour = 0; hour < 24; hour++) t.is(50 + hour, "tide", 60 * hour);
    }
}
