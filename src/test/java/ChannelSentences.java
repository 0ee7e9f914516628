/** Promises 1 to 8 and 12, and what the terms say of miles, the tide's heights, settings and ships. */
final class ChannelSentences {
    private static final int TERMS = Sentences.TERMS;
    private static final int[] LOW = {20, 10, 0, 0, 0};
    private static final int[] HIGH = {250, 99, 9, 20, 40};
    private static final int[] AT_FIRST = {100, 50, 9, 0, 0, 8};
    private static final int[] SETTING_HIGH = {90, 9, 10, 1, 99};
    private static final int[] SETTING_AT_FIRST = {0, 0, 0, 0, 5};
    private final Sentences s;

    ChannelSentences(Sentences sentences) {
        s = sentences;
    }

    void all() {
        termsOfMiles();
        termsOfTheTide();
        termsOfShips();
        newObject();
        mile();
        make();
        told();
        height();
        set();
        ship();
        pace();
        count();
    }

    private Tried two() {
        return s.fresh().made("mile", 100, 50).made("mile", 100, 50);
    }

    private void termsOfMiles() {
        s.says(TERMS, "MILES 0 .. 15, as they come, have");
        Tried t = s.fresh();
        for (int mile = 0; mile < 16; mile++) t.keeps(-1, "told", mile, 0).is(mile, "mile", 20 + mile, 50);
        for (int mile = 0; mile < 16; mile++) t.keeps(20 + mile, "told", mile, 0);
        t.keeps(-1, "told", 16, 0).keeps(-1, "told", -1, 0);
        s.says(TERMS, "a DEPTH (20 .. 250)");
        bound(0);
        two().bounds(20, 250, 0, "mile", 0, 50).is(2, "mile", 20, 50).is(20, "told", 2, 0).is(3, "mile", 250, 50).is(250, "told", 3, 0);
        s.says(TERMS, "a WIDTH (10 .. 99)");
        bound(1);
        two().bounds(10, 99, 1, "mile", 100, 0).is(2, "mile", 100, 10).is(10, "told", 2, 1).is(3, "mile", 100, 99).is(99, "told", 3, 1);
        s.says(TERMS, "SALT (0 .. 9; 9 at first)");
        bound(2);
        s.says(TERMS, "MUD (0 .. 20; 0)");
        bound(3);
        s.says(TERMS, "a QUAY or none (how far a moored ship is from her way: 0 none, 1 .. 40).");
        bound(4);
        Tried quay = two().made("ship", 90, 40, 30).keeps(-2, "past", 0, 0, 999);
        quay.made("make", 0, 4, 1).keeps(4, "past", 0, 0, 999).made("make", 0, 4, 40).keeps(15, "past", 0, 0, 999);
        quay.made("make", 0, 4, 0).keeps(-2, "past", 0, 0, 999);
    }

    /** What a mile has at first, the least and the greatest of it, the first ones that are too small, too large. */
    private void bound(int what) {
        Tried t = two().keeps(AT_FIRST[what], "told", 1, what).bounds(LOW[what], HIGH[what], 2, "make", 1, what, 0);
        t.is(AT_FIRST[what], "make", 1, what, LOW[what]).is(LOW[what], "told", 1, what);
        t.is(LOW[what], "make", 1, what, HIGH[what]).is(HIGH[what], "told", 1, what).is(AT_FIRST[what], "told", 0, what);
    }

    private void termsOfTheTide() {
        s.says(TERMS, "THE TIDE has a height (0 .. 99; 0 at first) at each HOUR 0 .. 23.");
        Tried t = s.fresh();
        for (int hour = 0; hour < 24; hour++) t.keeps(0, "tide", 60 * hour);
        for (int hour = 0; hour < 24; hour++) t.bounds(0, 99, 1, "height", hour, 0).is(0, "height", hour, 99 - hour);
        for (int hour = 0; hour < 24; hour++) t.keeps(99 - hour, "tide", 60 * hour);
        t.bounds(0, 23, 0, "height", 0, 50);
        s.says(TERMS, "SETTINGS:");
        s.fresh().bounds(0, 4, 0, "set", 0, 1);
        s.says(TERMS, "0 LATE (0 .. 90; 0)");
        setting(0);
        s.says(TERMS, "1 WIND (0 .. 9; 0)");
        setting(1);
        s.says(TERMS, "2 SOFT (0 .. 10 tenths; 0)");
        setting(2);
        s.says(TERMS, "3 RULE (0 fixed, 1 by hundredths; 0)");
        setting(3);
        s.says(TERMS, "4 LEAST (0 .. 99; 5).");
        setting(4);
    }

    private void setting(int what) {
        Tried t = s.fresh().bounds(0, SETTING_HIGH[what], 1, "set", what, 0);
        t.is(SETTING_AT_FIRST[what], "set", what, SETTING_HIGH[what]).is(SETTING_HIGH[what], "set", what, 0).is(0, "set", what, 0);
        for (int other = 0; other < 5; other++) {
            if (other != what) t.is(SETTING_AT_FIRST[other], "set", other, 1);
        }
    }

    private void termsOfShips() {
        s.says(TERMS, "SHIPS 0 .. 5, as they come, have");
        Tried t = s.fresh();
        for (int ship = 0; ship < 6; ship++) t.keeps(-1, "need", ship).is(ship, "ship", 100 + ship, 20, 30);
        t.keeps(-1, "need", 6).keeps(-1, "need", -1).made("mile", 250, 99);
        // At pace 1 she sinks 20 times her draught by 74250: 0.
        for (int ship = 0; ship < 6; ship++) t.keeps(150 - ship, "under", ship, 0, 0, 1);
        s.says(TERMS, "a DRAUGHT (20 .. 200)");
        Tried one = s.fresh().made("mile", 250, 99).bounds(20, 200, 0, "ship", 0, 20, 30);
        one.is(0, "ship", 20, 20, 30).is(1, "ship", 200, 20, 30).is(230, "under", 0, 0, 0, 1).is(50, "under", 1, 0, 0, 1);
        s.says(TERMS, "a BREADTH (1 .. 40)");
        Tried two = s.fresh().made("mile", 250, 99).bounds(1, 40, 1, "ship", 100, 0, 30);
        // 15 15 breadth 100 by (3 99 250): 22500, 900000 by 74250.
        two.is(0, "ship", 100, 1, 30).is(1, "ship", 100, 40, 30).is(0, "sinks", 0, 0, 0, 15).is(12, "sinks", 1, 0, 0, 15);
        s.says(TERMS, "a RUDDER (1 .. 99).");
        Tried three = s.fresh().bounds(1, 99, 2, "ship", 100, 20, 0);
        // At pace 10 and breadth 20 she is drawn by 2000: by 1024 to 1, by 25 to 80, by 16 to 125.
        three.is(0, "ship", 100, 20, 1).is(1, "ship", 100, 20, 99).is(32, "nearest", 0, 10).is(5, "nearest", 1, 10);
    }

    private void newObject() {
        s.says(1, "No channel, no ship.");
        Tried t = s.fresh().keeps(0, "count", 0).keeps(0, "count", 1).keeps(0, "count", 2);
        t.keeps(-1, "told", 0, 0).keeps(-1, "make", 0, 0, 100).keeps(-1, "pace", 0, 8).keeps(-100001, "water", 0, 0);
        t.keeps(-1, "need", 0).keeps(-1, "run", 0, 0, 0).keeps(-1, "least", 0, 0, -1).keeps(-1, "starts", 0, 0);
        t.keeps(-1, "deepest", 0, 0).keeps(-1, "bank", 0, 1, 1).keeps(-1, "nearest", 0, 1).keeps(-1, "day", 1, 1, -1);
        t.keeps(-1, "dredged", 0, 0, 0).keeps(-1, "lost", 0, 0, 0, 0).keeps(-1, "touched", 0, 0, 0).keeps(-1, "past", 0, 0, 0);
        t.keeps(-1, "meet", 0, 0, 1, 1, 0, 1).keeps(-1, "may", 0, 1, 0, 1, 1).keeps(-1, "sinks", 0, 0, 0, 1);
        t.keeps(-100001, "under", 0, 0, 0, 1).is(0, "mile", 100, 50).is(0, "ship", 90, 20, 30);
    }

    private void mile() {
        s.says(2, "A MILE: its number.");
        Tried t = s.fresh().is(0, "mile", 100, 50).is(1, "mile", 100, 50).is(2, "count", 0);
        for (int what = 0; what < 6; what++) t.is(AT_FIRST[what], "told", 1, what);
        // A mile that comes where one was ahead of an image has nothing of that one.
        Tried back = s.fresh().made("image").made("mile", 100, 50);
        for (int what = 0; what < 5; what++) back.made("make", 0, what, LOW[what] + 1);
        back.made("pace", 0, 3).made("restore").is(0, "mile", 100, 50);
        for (int what = 0; what < 6; what++) back.is(AT_FIRST[what], "told", 0, what);
        s.says(2, "BAD; FULL: 16.");
        Tried full = two();
        for (int mile = 2; mile < 16; mile++) full.is(mile, "mile", 100, 50);
        full.keeps(-3, "mile", 20, 10).keeps(-3, "mile", 250, 99).is(16, "count", 0).is(800, "count", 2);
        full.keeps(-1, "mile", 19, 10).keeps(-1, "mile", 251, 10).keeps(-1, "mile", 20, 9).keeps(-1, "mile", 20, 100);
        full.types("100w50;100w50").is(2, "channel").is(2, "mile", 100, 50);
        for (int mile = 3; mile < 16; mile++) full.made("mile", 100, 50);
        full.keeps(-3, "mile", 100, 50);
    }

    private void make() {
        s.says(3, "Of a MILE: 0 DEPTH, 1 WIDTH, 2 SALT, 3 MUD, 4 QUAY becomes v: what it was.");
        Tried t = two();
        for (int what = 0; what < 5; what++) t.is(AT_FIRST[what], "make", 1, what, HIGH[what] - 1);
        for (int what = 0; what < 5; what++) t.is(HIGH[what] - 1, "make", 1, what, HIGH[what] - 1).is(AT_FIRST[what], "told", 0, what);
        t.is(8, "told", 1, 5);
        s.says(3, "BAD.");
        two().bounds(0, 1, 0, "make", 0, 0, 100).bounds(0, 4, 1, "make", 1, 0, 20);
        // Each kind of number has its own bounds, not those of another one.
        two().keeps(-1, "make", 0, 1, 100).keeps(-1, "make", 0, 2, 10).keeps(-1, "make", 0, 3, 21).keeps(-1, "make", 0, 4, 41);
        s.fresh().keeps(-1, "make", 0, 0, 100);
    }

    private void told() {
        s.says(4, "Of a MILE: 0 .. 4 likewise,");
        Tried t = two();
        for (int what = 0; what < 5; what++) t.keeps(AT_FIRST[what], "told", 1, what).made("make", 1, what, LOW[what])
            .keeps(LOW[what], "told", 1, what);
        s.says(4, "5 the PACE of the PLAN.");
        t.keeps(8, "told", 1, 5).made("pace", 1, 15).keeps(15, "told", 1, 5).keeps(8, "told", 0, 5);
        s.says(4, "BAD.");
        two().bounds(0, 1, 0, "told", 0, 0).bounds(0, 5, 1, "told", 1, 0);
    }

    private void height() {
        s.says(5, "The height of THE TIDE at an HOUR: what it was.");
        s.fresh().is(0, "height", 0, 99).is(99, "height", 0, 1).is(1, "height", 0, 0).is(0, "height", 23, 5).is(5, "height", 23, 5)
            .is(0, "tide", 60);
        s.says(5, "BAD.");
        s.fresh().made("height", 0, 7).bounds(0, 23, 0, "height", 0, 9).bounds(0, 99, 1, "height", 0, 0).bounds(0, 99, 1, "height", 23, 0);
    }

    private void set() {
        s.says(6, "A SETTING: what it was.");
        Tried t = s.fresh();
        for (int what = 0; what < 5; what++) t.is(SETTING_AT_FIRST[what], "set", what, 1);
        for (int what = 0; what < 5; what++) t.is(1, "set", what, SETTING_HIGH[what]).is(SETTING_HIGH[what], "set", what, 0);
        s.says(6, "BAD.");
        s.fresh().bounds(0, 4, 0, "set", 0, 0).keeps(-1, "set", -1, 99).keeps(-1, "set", 5, 0);
        for (int what = 0; what < 5; what++) s.fresh().bounds(0, SETTING_HIGH[what], 1, "set", what, 0);
    }

    private void ship() {
        s.says(7, "A SHIP: her number.");
        s.fresh().is(0, "ship", 20, 1, 1).is(1, "ship", 200, 40, 99).is(2, "ship", 20, 1, 1).is(3, "count", 1);
        s.says(7, "BAD; FULL: 6.");
        Tried t = s.fresh().bounds(20, 200, 0, "ship", 0, 1, 1).bounds(1, 40, 1, "ship", 20, 0, 1).bounds(1, 99, 2, "ship", 20, 1, 0);
        for (int ship = 0; ship < 6; ship++) t.is(ship, "ship", 20, 1, 1);
        t.keeps(-3, "ship", 20, 1, 1).keeps(-3, "ship", 200, 40, 99).is(6, "count", 1);
        t.keeps(-1, "ship", 19, 1, 1).keeps(-1, "ship", 201, 1, 1).keeps(-1, "ship", 20, 0, 1).keeps(-1, "ship", 20, 41, 1);
        t.keeps(-1, "ship", 20, 1, 0).keeps(-1, "ship", 20, 1, 100);
    }

    private void pace() {
        s.says(8, "The PACE of the PLAN in a MILE: what it was.");
        two().is(8, "pace", 1, 1).is(1, "pace", 1, 15).is(15, "pace", 1, 15).is(8, "pace", 0, 7);
        s.says(8, "BAD.");
        two().bounds(0, 1, 0, "pace", 0, 5).bounds(1, 15, 1, "pace", 0, 0);
        s.fresh().keeps(-1, "pace", 0, 8);
    }

    private void count() {
        s.says(12, "How many: 0 MILES, 1 SHIPS, 2 WIDTHS together.");
        Tried t = s.fresh().is(0, "count", 0).is(0, "count", 1).is(0, "count", 2);
        for (int n = 1; n <= 16; n++) t.made("mile", 100, 99).keeps(n, "count", 0).keeps(99 * n, "count", 2).keeps(0, "count", 1);
        for (int n = 1; n <= 6; n++) t.made("ship", 90, 20, 30).keeps(n, "count", 1);
        t.made("make", 15, 1, 10).keeps(15 * 99 + 10, "count", 2).types("20w10").made("channel").keeps(10, "count", 2).keeps(1, "count", 0);
        s.says(12, "BAD.");
        two().bounds(0, 2, 0, "count", 0);
    }
}
