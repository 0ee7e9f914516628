/** What the document says of all calls: answers below 0 and their order, that a refused call changes nothing. */
final class TermSentences {
    private static final int TERMS = Sentences.TERMS;
    private final Sentences s;

    TermSentences(Sentences sentences) {
        s = sentences;
    }

    void all() {
        calls();
        answers();
        first();
        machine();
        noItems();
        changesNothing();
        lower();
        sets();
        cut();
    }

    /** A port in which something of each kind is told, an image, a tape and sheets of each lane among it. */
    Tried port() {
        Tried t = s.fresh().made("mile", 100, 40).made("mile", 110, 50).made("make", 1, 4, 7).made("pace", 1, 5);
        t.made("ship", 90, 20, 30).made("ship", 80, 10, 20).made("height", 3, 44).made("set", 1, 2);
        t.made("image").made("make", 0, 0, 120).made("mile", 130, 60).made("ship", 70, 30, 60);
        t.made("height", 4, 33).made("set", 4, 7).types("100w50 ");
        for (int lane = 0; lane < 3; lane++) {
            t.made("sheet", lane, lane, 5);
            for (int i = 0; i < 5; i++) t.made("item", lane, lane, i, 10 * lane + i + 1);
        }
        return t;
    }

    private void calls() {
        s.says(Sentences.WHAT_IT_IS, "An object is used for at most 512 calls after it has been made");
        Tried t = s.fresh().made("mile", 100, 40).made("ship", 90, 20, 30);
        for (int call = 2; call < 509; call++) t.is(call == 2 ? 8 : 1 + (call - 1) % 15, "pace", 0, 1 + call % 15);
        // 100 less 90: pace 6 sinks 5, so that 5 are left; pace 7 sinks 7.
        t.is(10, "least", 0, 0, -1).is(6, "least", 0, 0, 0).is(1 + 508 % 15, "told", 0, 5);
    }

    private void answers() {
        s.says(TERMS, "BAD -1 (a number is not as told, there is no such thing)");
        s.due("BAD", DeepShip.BAD, -1);
        s.fresh().keeps(-1, "mile", 19, 50).keeps(-1, "told", 0, 0);
        s.says(TERMS, "NOT -2 (as told)");
        s.due("NOT", DeepShip.NOT, -2);
        s.fresh().made("ship", 90, 20, 30).keeps(-2, "run", 0, 0, 0);
        s.says(TERMS, "FULL -3");
        s.due("FULL", DeepShip.FULL, -3);
        Tried full = s.fresh();
        for (int i = 0; i < 6; i++) full.is(i, "ship", 90, 20, 30);
        full.keeps(-3, "ship", 90, 20, 30);
        s.says(TERMS, "NONE -4 (as told)");
        s.due("NONE", DeepShip.NONE, -4);
        s.fresh().keeps(-4, "restore");
        s.says(TERMS, "CAST -12 (of SHEETS another LANE)");
        s.due("CAST", DeepShip.CAST, -12);
        for (int lane = 0; lane < 3; lane++) {
            Tried t = s.fresh().is(2, "sheet", 0, lane, 2);
            for (int other = 0; other < 3; other++) {
                if (other == lane) t.again().is(1, "item", 0, other, 1, 3).is(0, "gauged", 0, other, 0, 1, 0);
                else t.keeps(-12, "item", 0, other, 1, 3).keeps(-12, "gauged", 0, other, 0, 1, 0);
            }
        }
        s.says(TERMS, "what the machine finds: NULL -11, INDEX -13, SIZE -14");
        s.due("NULL", DeepShip.NULL, -11);
        s.due("INDEX", DeepShip.INDEX, -13);
        s.due("SIZE", DeepShip.SIZE, -14);
        s.fresh().keeps(-11, "drop", 0).keeps(-14, "sheet", 0, 0, -1).made("sheet", 0, 0, 1).keeps(-13, "item", 0, 0, 1, 1);
    }

    private void first() {
        s.says(TERMS, "Answers below 0, of several the first that a call names:");
        Tried t = port();
        for (int mile = 3; mile < 16; mile++) t.made("mile", 100, 40);
        for (int ship = 3; ship < 6; ship++) t.made("ship", 90, 20, 30);
        t.keeps(-1, "mile", 251, 40).keeps(-3, "mile", 250, 40);
        t.keeps(-1, "ship", 90, 20, 100).keeps(-3, "ship", 90, 20, 99);
        Tried none = s.fresh().made("ship", 90, 20, 30).made("ship", 90, 20, 30);
        none.keeps(-1, "run", 0, 1440, 0).keeps(-2, "run", 0, 1439, 0);
        none.keeps(-1, "least", 0, 0, 16).keeps(-2, "least", 0, 0, 15);
        none.keeps(-1, "starts", 0, 3).keeps(-2, "starts", 0, 2);
        none.keeps(-1, "deepest", 2, 0).keeps(-2, "deepest", 1, 0);
        none.keeps(-1, "meet", 1, 0, 8, 1, 0, 8).keeps(-2, "meet", 1, 0, 8, 0, 0, 8);
        none.keeps(-1, "day", 4, 1, 0).keeps(-2, "day", 3, 1, 0);
        none.keeps(-1, "dredged", 0, 0, 2).keeps(-2, "dredged", 0, 0, 1);
        none.keeps(-1, "lost", 0, 0, 0, 100).keeps(-2, "lost", 0, 0, 0, 99);
        none.keeps(-1, "touched", 0, 0, 16).keeps(-2, "touched", 0, 0, 15);
        // Mile 0 has no quay, mile 1 has one: pace 1 is 20 by 7, which is 2.
        Tried quay = port();
        quay.keeps(-1, "past", 0, 0, 1000).keeps(-2, "past", 0, 0, 0).keeps(-4, "past", 0, 1, 1);
        // By no plan, and no such mile; by no order, and no k-th.
        Tried low = s.fresh().made("mile", 20, 10).made("ship", 90, 20, 30);
        low.keeps(-1, "least", 0, 0, 1).keeps(-4, "least", 0, 0, 0);
        low.keeps(-1, "dredged", 0, 0, 2).keeps(-4, "dredged", 0, 0, 0);
        low.keeps(-1, "day", 1, 1, 6).keeps(-4, "day", 1, 1, 5);
        Tried sheets = s.fresh().made("sheet", 0, 2, 2);
        sheets.keeps(-1, "sheet", 4, 0, -1).keeps(-1, "sheet", 0, 3, -1).keeps(-14, "sheet", 0, 2, -1);
        sheets.keeps(-1, "gauged", 1, 2, 0, 9, 0).keeps(-1, "gauged", 0, 1, 9, 1, 3);
        sheets.made("item", 0, 2, 0, 1440).keeps(-13, "gauged", 0, 2, 0, 2, 1).keeps(-2, "gauged", 0, 2, 0, 1, 1);
    }

    private void machine() {
        s.says(TERMS, "(NULL, CAST, INDEX, SIZE in this order;");
        Tried t = s.fresh().made("sheet", 0, 0, 3).made("sheet", 1, 1, 3);
        t.keeps(-11, "item", 2, 0, -1, 5).keeps(-12, "item", 0, 1, -1, 5).keeps(-13, "item", 0, 0, -1, 5);
        t.keeps(-11, "gauged", 2, 0, -1, 8, 0).keeps(-12, "gauged", 0, 2, -1, 8, 0).keeps(-13, "gauged", 0, 0, -1, 8, 0);
        t.keeps(-11, "copy", 2, -1, 0, -1, -1).keeps(-11, "copy", 0, -1, 2, -1, -1).keeps(-11, "copy", 2, 0, 2, 0, 0);
        t.keeps(-12, "copy", 0, -1, 1, -1, -1).keeps(-12, "copy", 0, 9, 1, 9, 9).keeps(-13, "copy", 0, -1, 0, -1, -1);
        s.fresh().keeps(-14, "sheet", 0, 0, -1).made("sheet", 0, 1, 2).keeps(-14, "sheet", 0, 0, -1);
    }

    private void noItems() {
        s.says(TERMS, "INDEX also where no item is taken, if i, j is below 0, or above how many there are)");
        Tried t = s.fresh().made("sheet", 0, 1, 5).made("sheet", 1, 1, 3).made("sheet", 2, 1, 0);
        t.keeps(0, "copy", 0, 0, 1, 0, 0).keeps(0, "copy", 0, 5, 1, 3, 0).keeps(0, "copy", 1, 3, 0, 5, 0).keeps(0, "copy", 2, 0, 2, 0, 0);
        t.keeps(-13, "copy", 0, -1, 1, 0, 0).keeps(-13, "copy", 0, 6, 1, 0, 0);
        t.keeps(-13, "copy", 0, 0, 1, -1, 0).keeps(-13, "copy", 0, 0, 1, 4, 0);
        t.keeps(-13, "copy", 2, 1, 0, 0, 0).keeps(-13, "copy", 0, 0, 2, 1, 0);
        t.keeps(-13, "copy", 0, Integer.MIN_VALUE, 1, 0, 0).keeps(-13, "copy", 0, Integer.MAX_VALUE, 1, 0, 0);
        t.keeps(-13, "copy", 0, 0, 1, Integer.MIN_VALUE, 0).keeps(-13, "copy", 0, 0, 1, Integer.MAX_VALUE, 0);
    }

    private void changesNothing() {
        s.says(TERMS, "What answers so changes nothing,");
        Tried t = port();
        t.keeps(-1, "mile", 100, 9).keeps(-1, "make", 0, 0, 251).keeps(-1, "height", 0, 100).keeps(-1, "set", 4, 100);
        t.keeps(-1, "ship", 90, 41, 30).keeps(-1, "pace", 0, 16).keeps(-1, "type", 0x3107, 2).keeps(-1, "count", 3);
        t.keeps(-2, "past", 0, 0, 9).keeps(-4, "day", 1, 1, 1).keeps(-11, "drop", 3).keeps(-11, "copy", 0, 0, 3, 0, 1);
        t.keeps(-12, "copy", 0, 0, 1, 0, 1).keeps(-13, "copy", 0, 4, 0, 0, 2).keeps(-13, "copy", 0, 0, 0, 4, 2);
        t.keeps(-13, "item", 2, 2, 5, 9).keeps(-14, "sheet", 2, 2, -1).keeps(-1, "sheet", 2, 2, 25);
        Tried tape = s.fresh();
        for (int i = 0; i < 12; i++) tape.types("        ");
        tape.types("100").keeps(-3, "type", Due.word("w5"), 2).is(100, "type", 'w', 1).keeps(-3, "type", '5', 1);
        s.says(TERMS, "but as told.");
        // The tape is '100w50 ': a fault leaves nothing of it.
        port().is(8, "type", 'x', 1).is(-27, "channel").is(1, "type", '1', 1).is(3, "count", 0);
        port().is(8, "type", 'x', 1).is(-20, "tides").is(1, "type", '1', 1).is(33, "tide", 240);
    }

    private void lower() {
        s.says(TERMS, "Where a told thing may be below 0, refused ones are 100000 less (-100001 and so on).");
        Tried t = s.fresh().made("mile", 89, 99).made("ship", 90, 1, 1);
        // Pace 1 sinks 0, so that 89 less 90 are under her: -1 is told, and is no refusal.
        t.keeps(-1, "under", 0, 0, 0, 1).keeps(-100001, "under", 1, 0, 0, 1).keeps(-100001, "under", 0, 1, 0, 1);
        t.keeps(-100001, "water", 1, 0).keeps(89, "water", 0, 0);
        // What is under her in a run is told as 100000 more, so that its refusals are as ever.
        t.keeps(99999, "run", 0, 0, 2).keeps(-1, "run", 1, 0, 2);
        t.made("make", 0, 1, 10).keeps(-3, "under", 0, 0, 0, 8);
    }

    private void sets() {
        s.says(TERMS, "Sets are bits.");
        Tried t = s.fresh().made("mile", 90, 99);
        for (int ship = 0; ship < 6; ship++) t.made("ship", 20, 1, 1);
        for (int ship = 0; ship < 6; ship++) t.keeps(ship, "day", 1 << ship, 1, 0).keeps(-4, "day", 1 << ship, 1, 1);
        t.keeps(0, "day", 33, 1, 0).keeps(5, "day", 33, 1, 1).keeps(-4, "day", 33, 1, 2);
        t.keeps(5, "day", 63, 1, 5).keeps(-1, "day", 64, 1, 0).keeps(-1, "day", 65, 1, 0).keeps(-1, "day", 0, 1, 0);
        t.keeps(-1, "day", Integer.MIN_VALUE, 1, 0).keeps(-1, "day", Integer.MIN_VALUE + 1, 1, 0).keeps(-1, "day", -1, 1, 0);
        t.keeps(0, "touched", 0, 0, 0);
        // She sinks 0 and the wind rolls her by 0: what is under her is the depth less 90, less twice the wind.
        Tried all = s.fresh().made("mile", 89, 99).made("ship", 90, 1, 1).made("pace", 0, 1);
        all.keeps(1023, "touched", 0, 0, 0);
        all.made("make", 0, 0, 90).keeps(1022, "touched", 0, 0, 0);
        all.made("make", 0, 0, 106).keeps(1 << 9, "touched", 0, 0, 0);
        all.made("make", 0, 0, 108).keeps(0, "touched", 0, 0, 0);
    }

    private void cut() {
        s.says(TERMS, "Divisions are cut (towards 0).");
        // The tide falls by 7 in an hour: by 0.93, 1.05, 6.88; it grows by 7: as much.
        Tried t = s.fresh().made("height", 0, 10).made("height", 1, 3).made("height", 2, 10);
        t.keeps(10, "tide", 8).keeps(9, "tide", 9).keeps(4, "tide", 59).keeps(3, "tide", 68).keeps(4, "tide", 69).keeps(9, "tide", 119);
        // Gain 1 without lag: where she is below 0, by 4, is cut up; else she would not stay within 40.
        t.keeps(0, "steered", 1, 0).keeps(25, "steered", 1, 1);
    }
}
