/** Promises 32 to 38, and what the terms and the interface say of gauges and sheets. */
final class SheetSentences {
    private static final int TERMS = Sentences.TERMS;
    private final Sentences s;

    SheetSentences(Sentences sentences) {
        s = sentences;
    }

    void all() {
        termsOfSheets();
        termsOfGauges();
        image();
        restore();
        gauged();
        gaugedRefused();
        sheet();
        drop();
        item();
        copy();
    }

    private void termsOfSheets() {
        s.says(TERMS, "sheets 0 .. 3: nothing (at first),");
        Tried t = s.fresh();
        for (int sheet = 0; sheet < 4; sheet++) t.keeps(-11, "drop", sheet).keeps(-11, "item", sheet, 0, 0, 0)
            .keeps(-11, "copy", sheet, 0, sheet, 0, 0);
        t.bounds(0, 3, 0, "sheet", 0, 0, 1).bounds(0, 3, 0, "drop", 0).bounds(0, 3, 0, "item", 0, 0, 0, 0)
            .bounds(0, 3, 0, "gauged", 0, 0, 0, 1, 0);
        s.says(TERMS, "or a row of a LANE: 0 bytes, 1 shorts, 2 ints (all with a sign),");
        s.fresh().bounds(0, 2, 1, "sheet", 0, 0, 1);
        // Each is told apart by what it keeps of a number: read as a height (60 at minute 60 is late 0), and as a minute.
        int[][] keeps = {{60 + 256, 1, 0, 0}, {60 + 65536, 1, 1, 0}, {60, 1, 1, 1}, {60 - 256, 1, 0, 0}, {60 - 65536, 1, 1, 0}};
        for (int[] row : keeps) {
            for (int lane = 0; lane < 3; lane++) reads(lane, row[0], row[1 + lane] == 1 ? 0 : -4);
        }
        int[][] minutes = {{127, 0, 0, 0}, {128, -2, 0, 0}, {255, -2, 0, 0}, {256, 0, 0, 0},
            {32768, 0, -2, -2}, {65535, -2, -2, -2}, {65536, 0, 0, -2}, {-1, -2, -2, -2}};
        for (int[] row : minutes) {
            for (int lane = 0; lane < 3; lane++) {
                int due = row[1 + lane] == 0 ? 91 : -2;
                s.fresh().made("sheet", 0, lane, 2).is(1, "item", 0, lane, 0, row[0]).is(due, "gauged", 0, lane, 0, 1, 0);
            }
        }
        s.says(TERMS, "of 0 to 24 items.");
        for (int lane = 0; lane < 3; lane++) {
            s.fresh().is(0, "sheet", 0, lane, 0).keeps(-13, "item", 0, lane, 0, 1).is(0, "drop", 0);
            s.fresh().is(24, "sheet", 0, lane, 24).keeps(-13, "item", 0, lane, 24, 1).is(1, "item", 0, lane, 23, 1).is(24, "drop", 0);
            s.fresh().keeps(-1, "sheet", 0, lane, 25).keeps(-14, "sheet", 0, lane, -1).keeps(-11, "drop", 0);
        }
    }

    /** An item as a height at minute 60, where the tide is 60 less how late it is: the least late of it. */
    private void reads(int lane, int v, int late) {
        s.fresh().made("height", 1, 60).made("sheet", 0, lane, 2).made("item", 0, lane, 0, 60).is(1, "item", 0, lane, 1, v)
            .is(late, "gauged", 0, lane, 0, 1, 1);
    }

    /** One pair of ints. */
    private Tried pair(Tried t, int minute, int height) {
        return t.again().made("sheet", 0, 2, 2).made("item", 0, 2, 0, minute).made("item", 0, 2, 1, height);
    }

    private void late(Tried t, int many, int least, int greatest) {
        t.keeps(many, "gauged", 0, 2, 0, 1, 0).keeps(least, "gauged", 0, 2, 0, 1, 1).keeps(greatest, "gauged", 0, 2, 0, 1, 2);
    }

    private void termsOfGauges() {
        s.says(TERMS, "GAUGED: LATE (0 .. 90) by which THE TIDE is as told heights at told MINUTES.");
        // 60 at minute 60 alone, 99 at minute 1380 alone.
        Tried t = s.fresh().made("height", 1, 60).made("height", 23, 99);
        late(pair(t, 60, 60), 1, 0, 0);
        late(pair(t, 59, 60), 0, -4, -4);
        late(pair(t, 150, 60), 1, 90, 90);
        late(pair(t, 151, 60), 0, -4, -4);
        late(pair(t, 1380, 99), 1, 0, 0);
        late(pair(t, 1379, 99), 0, -4, -4);
        late(pair(t, 1439, 99), 1, 59, 59);
        // Round midnight: 90 minutes ahead of minute 30 is minute 1380.
        late(pair(t, 0, 99), 1, 60, 60);
        late(pair(t, 30, 99), 1, 90, 90);
        late(pair(t, 31, 99), 0, -4, -4);
        // All lates; and how late the tide is set does not matter, and stays.
        late(pair(t, 720, 0), 91, 0, 90);
        late(pair(t, 720, 1), 0, -4, -4);
        late(pair(t.again().made("set", 0, 33), 150, 60), 1, 90, 90);
        // On both sides of the top: 30 at minutes 30 and 90.
        late(pair(t, 90, 30), 2, 0, 60);
        late(pair(t, 119, 30), 2, 29, 89);
        late(pair(t, 121, 30), 1, 31, 31);
    }

    private void image() {
        s.says(32, "All but SHEETS, THE TAPE is kept as an IMAGE: 1.");
        Tried t = s.fresh().made("mile", 100, 40).made("make", 0, 2, 3).made("make", 0, 3, 4).made("make", 0, 4, 5).made("pace", 0, 3);
        t.made("ship", 90, 20, 30).made("height", 0, 9).made("height", 23, 8);
        for (int what = 0; what < 5; what++) t.made("set", what, what == 3 ? 1 : 6 + what - (what == 4 ? 3 : 0));
        t.made("sheet", 0, 2, 3).types("100w50").is(1, "image");
        t.made("mile", 90, 30).made("ship", 80, 20, 30).made("height", 0, 20).made("height", 23, 20);
        int[] other = {50, 20, 9, 0, 0};
        for (int what = 0; what < 5; what++) t.made("make", 0, what, other[what]).made("set", what, 0);
        t.made("pace", 0, 9).made("sheet", 1, 1, 5).made("drop", 0).types(" ").is(1, "restore");
        int[] due = {100, 40, 3, 4, 5, 3};
        for (int what = 0; what < 6; what++) t.keeps(due[what], "told", 0, what);
        t.keeps(1, "count", 0).keeps(1, "count", 1).keeps(40, "count", 2).keeps(-1, "told", 1, 0);
        int[] settings = {6, 7, 8, 1, 7};
        for (int what = 0; what < 5; what++) t.again().is(settings[what], "set", what, 0);
        t.again().made("set", 0, 0).is(9, "tide", 0).is(8, "tide", 1380);
        // Sheets and the tape are as they are now.
        t.keeps(-11, "drop", 0).again().is(5, "drop", 1).is(8, "type", ' ', 1).is(1, "channel").is(100, "told", 0, 0);
        s.fresh().is(1, "image").is(1, "restore").is(0, "count", 0).is(0, "mile", 100, 40).is(1, "restore").is(0, "count", 0);
    }

    private void restore() {
        s.says(33, "All is as it was then: 1.");
        Tried t = s.fresh().made("mile", 100, 40).is(1, "image").made("make", 0, 0, 50).is(1, "restore").is(100, "told", 0, 0);
        // The image stays, and is not what is told behind it; a later one comes in its place.
        t.made("make", 0, 0, 60).is(1, "restore").is(100, "told", 0, 0).made("make", 0, 0, 70).is(1, "image").made("make", 0, 0, 80);
        t.is(1, "restore").is(70, "told", 0, 0).is(1, "restore").is(70, "told", 0, 0);
        Tried full = s.fresh().is(1, "image");
        for (int i = 0; i < 16; i++) full.made("mile", 100, 40);
        for (int i = 0; i < 6; i++) full.made("ship", 90, 20, 30);
        full.is(-3, "mile", 100, 40).is(-3, "ship", 90, 20, 30).is(1, "restore").is(0, "count", 0).is(0, "count", 1).is(0, "mile", 50, 40)
            .is(0, "ship", 50, 20, 30);
        s.says(33, "NONE: there is none.");
        s.fresh().keeps(-4, "restore").made("mile", 100, 40).made("sheet", 0, 1, 2).types("100").keeps(-4, "restore");
    }

    private void gauged() {
        s.says(34, "GAUGED: n pairs (1 .. 8) of a MINUTE (0 .. 1439), a height, items of a SHEET, taken as a row of a LANE, from item i on:");
        for (int lane = 0; lane < 3; lane++) {
            Tried t = s.fresh().made("height", 1, 60).made("sheet", 0, lane, 24);
            // Heights of a tide that is 20 late at minutes 80 down to 69, twelve pairs.
            for (int pair = 0; pair < 12; pair++) t.made("item", 0, lane, 2 * pair, 80 - pair)
                .made("item", 0, lane, 2 * pair + 1, 60 - pair);
            t.bounds(1, 8, 3, "gauged", 0, lane, 0, 0, 0).keeps(20, "gauged", 0, lane, 0, 1, 1).keeps(20, "gauged", 0, lane, 0, 8, 1);
            t.keeps(20, "gauged", 0, lane, 8, 8, 1).keeps(-13, "gauged", 0, lane, 9, 8, 1).keeps(20, "gauged", 0, lane, 22, 1, 1)
                .keeps(-13, "gauged", 0, lane, 23, 1, 1);
            // The last of eight pairs counts, one behind it does not.
            t.again().made("item", 0, lane, 15, 1).keeps(0, "gauged", 0, lane, 0, 8, 0).keeps(1, "gauged", 0, lane, 0, 7, 0);
            t.again().made("item", 0, lane, 17, 1).keeps(1, "gauged", 0, lane, 0, 8, 0);
        }
        Tried edges = s.fresh().made("sheet", 0, 1, 4);
        for (int minute : new int[] {0, 1439}) edges.again().made("item", 0, 1, 2, minute).keeps(91, "gauged", 0, 1, 0, 2, 0);
        s.says(34, "how many LATES (0), the least (1), the greatest (2).");
        Tried t = s.fresh().made("height", 1, 60);
        late(pair(t, 90, 30), 2, 0, 60);
        late(pair(t, 720, 0), 91, 0, 90);
    }

    private void gaugedRefused() {
        s.says(34, "BAD; NULL; CAST; INDEX;");
        Tried t = s.fresh().made("sheet", 0, 1, 4);
        t.bounds(0, 3, 0, "gauged", 0, 1, 0, 1, 0).bounds(0, 2, 1, "gauged", 0, 0, 0, 1, 0).bounds(1, 8, 3, "gauged", 0, 1, 0, 0, 0)
            .bounds(0, 2, 4, "gauged", 0, 1, 0, 1, 0);
        t.keeps(-11, "gauged", 1, 1, 0, 1, 0).keeps(-12, "gauged", 0, 0, 0, 1, 0).keeps(-12, "gauged", 0, 2, 0, 1, 0);
        t.keeps(91, "gauged", 0, 1, 2, 1, 0).keeps(-13, "gauged", 0, 1, 3, 1, 0).keeps(-13, "gauged", 0, 1, 4, 1, 0)
            .keeps(-13, "gauged", 0, 1, 5, 1, 0).keeps(-13, "gauged", 0, 1, -1, 1, 0);
        t.keeps(91, "gauged", 0, 1, 0, 2, 0).keeps(-13, "gauged", 0, 1, 0, 3, 0).keeps(-13, "gauged", 0, 1, 1, 2, 0);
        for (int n = 1; n <= 8; n += 7) t.keeps(-13, "gauged", 0, 1, Integer.MAX_VALUE, n, 0)
            .keeps(-13, "gauged", 0, 1, Integer.MIN_VALUE, n, 0);
        // Of several: BAD, NULL, CAST, INDEX.
        t.keeps(-1, "gauged", 1, 1, -1, 9, 0).keeps(-1, "gauged", 1, 3, -1, 1, 0).keeps(-1, "gauged", 0, 0, -1, 1, 3)
            .keeps(-11, "gauged", 1, 0, -1, 1, 0).keeps(-12, "gauged", 0, 0, -1, 1, 0);
        s.fresh().made("sheet", 0, 1, 0).keeps(-13, "gauged", 0, 1, 0, 1, 0).made("sheet", 0, 1, 1).keeps(-13, "gauged", 0, 1, 0, 1, 0)
            .made("sheet", 0, 1, 2).keeps(91, "gauged", 0, 1, 0, 1, 0);
        s.says(34, "NOT: a MINUTE is not as told;");
        for (int minute : new int[] {-1, 1440, -32768, 32767}) {
            for (int what = 0; what < 3; what++) {
                t.again().made("item", 0, 1, 0, minute).keeps(-2, "gauged", 0, 1, 0, 1, what).keeps(-2, "gauged", 0, 1, 0, 2, what)
                    .keeps(-13, "gauged", 0, 1, 0, 3, what);
                t.again().made("item", 0, 1, 2, minute).keeps(-2, "gauged", 0, 1, 0, 2, what)
                    .keeps(what == 0 ? 91 : what == 1 ? 0 : 90, "gauged", 0, 1, 0, 1, what);
            }
        }
        // Ahead of NONE: the first pair fits no late, the minute of the second one is not as told. A height may be any.
        t.again().made("item", 0, 1, 1, 5).made("item", 0, 1, 2, 1440).keeps(-2, "gauged", 0, 1, 0, 2, 1);
        t.again().made("item", 0, 1, 1, -1).keeps(0, "gauged", 0, 1, 0, 1, 0).made("item", 0, 1, 1, 100).keeps(0, "gauged", 0, 1, 0, 1, 0);
        s.says(34, "NONE: there are none (1, 2).");
        t.again().made("item", 0, 1, 1, 5).keeps(0, "gauged", 0, 1, 0, 1, 0).keeps(-4, "gauged", 0, 1, 0, 1, 1)
            .keeps(-4, "gauged", 0, 1, 0, 1, 2);
    }

    private void sheet() {
        s.says(35, "A SHEET holds a new row of a LANE: n.");
        for (int lane = 0; lane < 3; lane++) {
            // In place of another one, of which nothing is left: its items were 30 and 30, those of the new one are 0.
            Tried t = s.fresh().made("sheet", 3, 1, 2).made("item", 3, 1, 0, 30).made("item", 3, 1, 1, 30);
            for (int hour = 0; hour < 24; hour++) t.made("height", hour, 30);
            t.is(91, "gauged", 3, 1, 0, 1, 0).is(2, "sheet", 3, lane, 2).is(0, "gauged", 3, lane, 0, 1, 0);
            holds(rows(lane, 6, 4).is(6, "sheet", 0, lane, 6), 0, lane, 0, 0, 0, 0, 0, 0);
            holds(rows(lane, 6, 4).made("drop", 0).is(6, "sheet", 0, lane, 6), 0, lane, 0, 0, 0, 0, 0, 0);
            holds(rows(lane, 3, 4).is(5, "sheet", 0, 2, 5), 0, 2, 0, 0, 0, 0, 0);
            t.is(24, "sheet", 3, lane, 24).is(0, "sheet", 3, lane, 0).is(24, "sheet", 3, lane, 24).is(24, "drop", 3);
        }
        s.says(35, "BAD: also n above 24;");
        Tried t = s.fresh().made("sheet", 0, 1, 2).made("item", 0, 1, 0, 7).made("item", 0, 1, 1, 8);
        t.keeps(-1, "sheet", 0, 1, 25).keeps(-1, "sheet", 0, 2, Integer.MAX_VALUE).bounds(0, 3, 0, "sheet", 0, 0, 1)
            .bounds(0, 2, 1, "sheet", 0, 0, 1);
        s.says(35, "SIZE: n below 0.");
        t.keeps(-14, "sheet", 0, 1, -1).keeps(-14, "sheet", 0, 0, -1).keeps(-14, "sheet", 3, 2, Integer.MIN_VALUE);
        t.keeps(-1, "sheet", 4, 1, -1).keeps(-1, "sheet", -1, 1, -1).keeps(-1, "sheet", 0, 3, -1).keeps(-1, "sheet", 0, -1, -1);
    }

    private void drop() {
        s.says(36, "A SHEET holds nothing: how many items it had.");
        for (int n : new int[] {0, 1, 24}) s.fresh().made("sheet", 1, 2, 5).made("sheet", 2, 0, n).is(n, "drop", 2)
            .keeps(-11, "item", 2, 0, 0, 1).is(-11, "drop", 2).is(5, "drop", 1);
        s.says(36, "BAD; NULL.");
        s.fresh().made("sheet", 0, 0, 3).bounds(0, 3, 0, "drop", 0).keeps(-11, "drop", 1).keeps(-11, "drop", 3);
    }

    private void item() {
        s.says(37, "Item i of a SHEET, taken as a row of a LANE, becomes v, its lowest bits: 1.");
        for (int lane = 0; lane < 3; lane++) {
            reads(lane, 60, 0);
            reads(lane, 0, 60);
            reads(lane, 0x7F000000 + 60, lane < 2 ? 0 : -4);
            reads(lane, Integer.MIN_VALUE + 60, lane < 2 ? 0 : -4);
            reads(lane, 0xFF00 + 60, lane == 0 ? 0 : -4);
            reads(lane, -1, -4);
            reads(lane, Integer.MAX_VALUE, -4);
        }
        s.says(37, "BAD; NULL; CAST; INDEX.");
        Tried t = s.fresh().made("sheet", 0, 1, 3).made("item", 0, 1, 0, 7).made("item", 0, 1, 2, 9);
        t.bounds(0, 3, 0, "item", 0, 1, 0, 5).bounds(0, 2, 1, "item", 0, 0, 0, 5).keeps(-11, "item", 1, 1, 0, 5)
            .keeps(-12, "item", 0, 0, 0, 5).keeps(-12, "item", 0, 2, 0, 5);
        for (int i : new int[] {-1, 3, 4, 23, 24, Integer.MIN_VALUE, Integer.MAX_VALUE}) t.keeps(-13, "item", 0, 1, i, 5);
        t.keeps(-1, "item", 1, 3, -1, 5).keeps(-1, "item", 4, 0, -1, 5).keeps(-11, "item", 1, 0, -1, 5).keeps(-12, "item", 0, 0, -1, 5);
        t.again().is(1, "item", 0, 1, 0, 5).is(1, "item", 0, 1, 2, 5);
    }

    /** A row of 1, 2, 3 .. in a sheet. */
    private Tried rows(int lane, int one, int other) {
        Tried t = s.fresh().made("height", 1, 60).made("sheet", 0, lane, one).made("sheet", 1, lane, other);
        for (int i = 0; i < one; i++) t.made("item", 0, lane, i, i + 1);
        return t;
    }

    private void holds(Tried t, int sheet, int lane, int... due) {
        for (int i = 0; i < due.length; i++) {
            Tried looks = t.again().made("sheet", 3, lane, 2).made("item", 3, lane, 0, 60).is(1, "copy", sheet, i, 3, 1, 1);
            looks.is(60 - due[i], "gauged", 3, lane, 0, 1, 1);
        }
        t.keeps(-13, "copy", sheet, due.length, sheet, 0, 1);
    }

    private void copy() {
        s.says(38, "n items of a SHEET from i on come to another one (or the same) from j on,");
        for (int lane = 0; lane < 3; lane++) {
            Tried t = rows(lane, 6, 4);
            holds(t.again().is(3, "copy", 0, 2, 1, 1, 3), 1, lane, 0, 3, 4, 5);
            holds(t.again().is(4, "copy", 0, 0, 1, 0, 4), 1, lane, 1, 2, 3, 4);
            holds(t.again().is(4, "copy", 0, 2, 1, 0, 4), 1, lane, 3, 4, 5, 6);
            holds(t.again().is(1, "copy", 0, 5, 1, 3, 1), 1, lane, 0, 0, 0, 6);
            holds(t.again().is(4, "copy", 0, 2, 1, 0, 4), 0, lane, 1, 2, 3, 4, 5, 6);
        }
        rows(1, 24, 24).is(24, "copy", 0, 0, 1, 0, 24).is(24, "copy", 1, 0, 0, 0, 24).is(24, "copy", 0, 0, 0, 0, 24);
        s.says(38, "as if all were taken ahead: n.");
        holds(rows(2, 6, 0).is(5, "copy", 0, 0, 0, 1, 5), 0, 2, 1, 1, 2, 3, 4, 5);
        holds(rows(2, 6, 0).is(5, "copy", 0, 1, 0, 0, 5), 0, 2, 2, 3, 4, 5, 6, 6);
        holds(rows(0, 6, 0).is(4, "copy", 0, 0, 0, 2, 4), 0, 0, 1, 2, 1, 2, 3, 4);
        holds(rows(0, 6, 0).is(6, "copy", 0, 0, 0, 0, 6), 0, 0, 1, 2, 3, 4, 5, 6);
        rows(1, 6, 4).keeps(0, "copy", 0, 0, 1, 0, 0);
        s.says(38, "BAD; NULL (either); CAST: of unlike LANES;");
        Tried t = rows(1, 6, 4).made("sheet", 2, 0, 6);
        t.keeps(-1, "copy", 4, 0, 0, 0, 1).keeps(-1, "copy", -1, 0, 0, 0, 1).keeps(-1, "copy", 0, 0, 4, 0, 1)
            .keeps(-1, "copy", 0, 0, -1, 0, 1);
        t.keeps(-1, "copy", 3, -1, 4, -1, -1).keeps(-1, "copy", 4, -1, 3, -1, -1).keeps(-11, "copy", 3, 0, 0, 0, 1)
            .keeps(-11, "copy", 0, 0, 3, 0, 1).keeps(-11, "copy", 3, 0, 3, 0, 0);
        t.keeps(-12, "copy", 0, 0, 2, 0, 1).keeps(-12, "copy", 2, 0, 0, 0, 1).keeps(-12, "copy", 0, 0, 2, 0, 0)
            .keeps(-12, "copy", 0, 7, 2, 0, -1).keeps(-11, "copy", 3, -1, 2, -1, -1);
        t.again().made("sheet", 2, 2, 6).keeps(-12, "copy", 0, 0, 2, 0, 1).made("sheet", 2, 1, 6).is(1, "copy", 0, 0, 2, 0, 1);
        s.says(38, "INDEX (n below 0, too).");
        int[][] out = {{0, 0, -1}, {-1, 0, 1}, {0, -1, 1}, {6, 0, 1}, {0, 4, 1}, {5, 0, 2}, {0, 3, 2},
            {0, 0, 5}, {3, 0, 4}, {2, 1, 4}, {7, 0, 0}, {0, 5, 0},
            {0, 0, Integer.MIN_VALUE}, {0, 0, Integer.MAX_VALUE}, {1, 0, Integer.MAX_VALUE}, {0, 1, Integer.MAX_VALUE},
            {Integer.MAX_VALUE, 0, 1}, {0, Integer.MAX_VALUE, 1}, {Integer.MIN_VALUE, 0, 1}, {0, Integer.MIN_VALUE, 1},
            {Integer.MAX_VALUE, 0, Integer.MAX_VALUE}, {-1, -1, -1}};
        for (int[] row : out) t.keeps(-13, "copy", 0, row[0], 1, row[1], row[2]);
        t.keeps(-13, "copy", 1, 0, 0, 0, 5).keeps(-13, "copy", 0, 0, 0, 1, 6).keeps(-13, "copy", 0, 1, 0, 0, 6);
    }
}
