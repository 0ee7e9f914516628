/** Promises 19 to 21 and 27 to 30, and what the terms say of the least time, starts, days, dredging, rules and winds. */
final class PlanSentences {
    private static final int TERMS = Sentences.TERMS;
    private final Sentences s;

    PlanSentences(Sentences sentences) {
        s = sentences;
    }

    void all() {
        termsOfTheLeastTime();
        firstRow();
        termsOfStarts();
        termsOfDeepest();
        termsOfDays();
        termsOfDredging();
        termsOfLost();
        termsOfTouched();
        least();
        starts();
        deepest();
        day();
        dredged();
        lost();
        touched();
    }

    /** A mile of 100, 40 wide, and a ship of 90, 20 broad: 10 at rest, pace pace 0.15 sunk: 0 0 1 2 3 5 7 9 12. */
    private Tried one() {
        return s.fresh().made("mile", 100, 40).made("ship", 90, 20, 30);
    }

    /** A ship with 90 that sinks 0 at pace 1, and a mile of so much in which the tide is 60 at one hour alone. */
    private Tried tidal(int depth, int hour) {
        return s.fresh().made("mile", depth, 99).made("ship", 90, 1, 30).made("height", hour, 60);
    }

    private void termsOfTheLeastTime() {
        s.says(TERMS, "THE LEAST TIME from a MINUTE: of all PLANS by RULE how many MINUTES the quickest takes;");
        // By 10, 9, 8, 7, 5, 3, 1: paces 2, 3, 4, 5, 6, 7, 8. By 11 none.
        int[][] due = {{10, 30, 2}, {9, 20, 3}, {8, 15, 4}, {7, 12, 5}, {6, 12, 5}, {5, 10, 6},
            {4, 10, 6}, {3, 8, 7}, {2, 8, 7}, {1, 7, 8}, {0, 7, 8}};
        for (int[] row : due) one().made("set", 4, row[0]).keeps(row[1], "least", 0, 0, -1).keeps(row[2], "least", 0, 0, 0);
        one().made("set", 4, 11).keeps(-4, "least", 0, 0, -1).keeps(-4, "least", 0, 0, 0);
        // The plan that is told does not matter, and stays.
        one().made("pace", 0, 15).keeps(10, "least", 0, 0, -1).keeps(15, "told", 0, 5);
        // As quick and as slow as 16 miles can be, from the first and the last minute.
        Tried quick = s.fresh().made("ship", 20, 1, 1);
        for (int mile = 0; mile < 16; mile++) quick.made("mile", 250, 99);
        quick.keeps(64, "least", 0, 0, -1).keeps(64, "least", 0, 1439, -1).keeps(13, "least", 0, 1439, 15);
        Tried slow = s.fresh().made("ship", 90, 10, 1);
        for (int mile = 0; mile < 16; mile++) slow.made("mile", 95, 10);
        slow.keeps(960, "least", 0, 0, -1).keeps(960, "least", 0, 1439, -1).keeps(1, "least", 0, 1439, 15);
        // Mile 15 needs what the tide is at one minute alone: 15 hours behind the last minute.
        Tried far = slow.again().made("make", 15, 0, 35).made("height", 15, 60).made("set", 0, 0);
        far.keeps(960, "least", 0, 0, -1).keeps(-4, "least", 0, 1, -1).keeps(-4, "least", 0, 1439, -1);
        far.made("height", 15, 0).made("height", 14, 60).made("set", 0, 59).keeps(960, "least", 0, 1439, -1)
            .keeps(-4, "least", 0, 1438, -1);
    }

    private void firstRow() {
        s.says(TERMS, "of like ones the first as a row of PACES (of PACES 1 .. 15).");
        // 120 and 100 30 broad: pace pace by 6 sunk, 20 at rest; 125, 130: 0.16, 0.1538, 25, 30 at rest.
        Tried t = s.fresh().made("mile", 120, 50).made("ship", 100, 30, 30);
        paces(t, 120, 8, 7, 8);
        paces(t, 120, 7, 6, 9);
        paces(t, 120, 4, 6, 9);
        paces(t, 120, 0, 5, 11);
        paces(t, 125, 2, 5, 11);
        paces(t, 130, 4, 4, 13);
        paces(t, 130, 0, 4, 13);
        paces(t, 250, 0, 4, 13);
        // The tide is the minute. Mile 2 may be come to from 24 on (pace 6, 10 minutes), 26 on (7, 8), 27 on (8, 7): in all 34,
        // of which 20 and 7 (paces 3, 8) are the first ones of a row; 60 and 30 and the like take more.
        Tried row = s.fresh().made("ship", 90, 20, 30).made("mile", 250, 99).made("mile", 250, 99).made("mile", 95, 40);
        row.made("height", 1, 60).made("height", 2, 60).made("set", 4, 25);
        row.keeps(34, "least", 0, 0, -1).keeps(3, "least", 0, 0, 0).keeps(8, "least", 0, 0, 1).keeps(8, "least", 0, 0, 2);
    }

    private void paces(Tried t, int depth, int least, int minutes, int pace) {
        t.again().made("make", 0, 0, depth).made("set", 4, least).keeps(minutes, "least", 0, 0, -1).keeps(pace, "least", 0, 0, 0);
    }

    private void termsOfStarts() {
        s.says(TERMS, "STARTS: MINUTES (0 .. 1439) from which there is one.");
        starts(one(), 1440, 0, 1439);
        starts(one().made("set", 4, 11), 0, -4, -4);
        // 35 and 60 less 90 are 5, which she needs: the one minute with 60.
        starts(tidal(35, 0), 1, 0, 0);
        starts(tidal(35, 5), 1, 300, 300);
        starts(tidal(35, 23).made("set", 0, 59), 1, 1439, 1439);
        starts(tidal(35, 23).made("set", 0, 60), 1, 0, 0);
        starts(tidal(34, 0), 0, -4, -4);
        // Tides of 59 or more, 1 or more, on both sides of midnight, and in the forenoon.
        starts(tidal(36, 0), 3, 0, 1439);
        starts(tidal(94, 0), 119, 0, 1439);
        starts(tidal(94, 5), 119, 241, 359);
        starts(tidal(95, 5), 1440, 0, 1439);
        // Mile 1 needs 55, which is from 1435 of this day to 5 of the next one; mile 0 takes 4 to 60 minutes:
        // from 1375 to 1385 (60), from 1405 (30) to 1439 (4 to 6), and 0 and 1 (5 and 4).
        Tried late = s.fresh().made("mile", 250, 99).made("mile", 40, 99).made("ship", 90, 1, 30).made("height", 0, 60);
        starts(late, 48, 0, 1439);
        int[][] due = {{0, 1}, {1, 1}, {2, 0}, {1374, 0}, {1375, 1}, {1385, 1}, {1386, 0}, {1404, 0}, {1405, 1}, {1439, 1}};
        for (int[] minute : due) s.due("a plan from " + minute[0], late.ask("least", 0, minute[0], -1) > 0 ? 1 : 0, minute[1]);
    }

    private void starts(Tried t, int many, int first, int last) {
        t.keeps(many, "starts", 0, 0).keeps(first, "starts", 0, 1).keeps(last, "starts", 0, 2);
    }

    private Tried loaded(int depth, int least) {
        return s.fresh().made("mile", depth, 99).made("ship", 111, 1, 1).made("set", 4, least);
    }

    private void termsOfDeepest() {
        s.says(TERMS, "DEEPEST from a MINUTE: the greatest DRAUGHT (20 .. 200)");
        loaded(20, 0).keeps(20, "deepest", 0, 0);
        loaded(20, 1).keeps(-4, "deepest", 0, 0);
        loaded(21, 1).keeps(20, "deepest", 0, 0);
        loaded(22, 1).keeps(21, "deepest", 0, 0);
        loaded(199, 0).keeps(199, "deepest", 0, 0);
        loaded(200, 0).keeps(200, "deepest", 0, 0);
        loaded(201, 0).keeps(200, "deepest", 0, 0);
        loaded(250, 50).keeps(200, "deepest", 0, 0);
        loaded(250, 51).keeps(199, "deepest", 0, 0);
        loaded(147, 0).keeps(147, "deepest", 0, 0).made("height", 0, 20).keeps(167, "deepest", 0, 0).keeps(147, "deepest", 0, 60)
            .keeps(166, "deepest", 0, 1439);
        s.says(TERMS, "with which a SHIP of her BREADTH has one.");
        // 40 broad and 99 deep she sinks 1 at pace 1 in 100, 10 wide; 1 broad she sinks 0. Her draught does not matter.
        Tried t = s.fresh().made("mile", 100, 10).made("set", 4, 0).made("ship", 20, 40, 1).made("ship", 200, 40, 1).made("ship", 20, 1, 1);
        t.keeps(99, "deepest", 0, 0).keeps(99, "deepest", 1, 0).keeps(100, "deepest", 2, 0);
        // By hundredths of the draught that is tried: 96 and 4.8, 97 and 4.85.
        loaded(100, 5).made("set", 3, 1).keeps(96, "deepest", 0, 0);
    }

    private void termsOfDays() {
        s.says(TERMS, "A DAY: all SHIPS told by a set go one behind the other, GAP MINUTES (1 .. 240) or more between STARTS,");
        Tried free = one();
        for (int ship = 1; ship < 6; ship++) free.made("ship", 90, 20, 30);
        free.bounds(1, 240, 1, "day", 63, 0, -1).keeps(15, "day", 63, 1, -1).keeps(3600, "day", 63, 240, -1).keeps(239, "day", 3, 239, -1)
            .keeps(0, "day", 1, 240, -1);
        for (int k = 0; k < 6; k++) free.keeps(k, "day", 63, 240, k);
        s.says(TERMS, "each at one of its STARTS, from MINUTE 0 on:");
        // Ship 0 and 2 may start from 245 to 355, ship 1 at any minute.
        Tried t = s.fresh().made("mile", 90, 99).made("ship", 90, 1, 30).made("ship", 40, 1, 30).made("ship", 90, 1, 30)
            .made("height", 5, 60);
        t.keeps(245, "day", 1, 1, -1).keeps(0, "day", 2, 1, -1).keeps(245, "day", 3, 240, -1).keeps(245 + 246, "day", 5, 1, -1);
        t.keeps(245 + 355, "day", 5, 110, -1).keeps(-4, "day", 5, 111, -1).keeps(600, "day", 7, 110, -1).keeps(-4, "day", 7, 111, -1);
        // One start alone, at the first minute, and at the last one.
        Tried first = tidal(35, 0).made("ship", 30, 1, 30).made("ship", 90, 1, 30).keeps(0, "day", 1, 1, -1).keeps(-4, "day", 5, 1, -1);
        first.keeps(240, "day", 3, 240, -1).keeps(0, "day", 3, 240, 0).keeps(1, "day", 3, 240, 1);
        Tried last = first.again().made("height", 0, 0).made("height", 23, 60).made("set", 0, 59).keeps(1439, "day", 1, 1, -1)
            .keeps(-4, "day", 5, 1, -1);
        last.keeps(1439, "day", 3, 240, -1).keeps(1, "day", 3, 240, 0).keeps(0, "day", 3, 240, 1);
        s.says(TERMS, "of all orders that by which the sum of STARTS is least");
        t.keeps(1, "day", 3, 1, 0).keeps(0, "day", 3, 1, 1).keeps(1, "day", 7, 110, 0).keeps(0, "day", 7, 110, 1)
            .keeps(2, "day", 7, 110, 2);
        s.says(TERMS, "(each starts as early as it can),");
        t.keeps(245 + 275, "day", 5, 30, -1).keeps(0 + 245 + 246, "day", 7, 1, -1).keeps(0 + 245 + 275, "day", 7, 30, -1);
        s.says(TERMS, "of like ones the first as a row.");
        free.keeps(1, "day", 6, 1, 0).keeps(2, "day", 6, 1, 1).keeps(0, "day", 33, 1, 0).keeps(5, "day", 33, 1, 1);
        t.keeps(0, "day", 5, 1, 0).keeps(2, "day", 5, 1, 1);
    }

    private void termsOfDredging() {
        s.says(TERMS, "DREDGED: which MILE, 1 DEPTH more");
        // 99: 9 at rest, pace 5 (3.78 sunk) by 5; 100: pace 6. 100: pace 6, and 101 no better (7 sinks 7).
        Tried t = one().made("mile", 99, 40).keeps(22, "least", 0, 0, -1).keeps(1, "dredged", 0, 0, 0).keeps(2, "dredged", 0, 0, 1)
            .keeps(99, "told", 1, 0);
        s.says(TERMS, "(250 at most: not it),");
        t.again().made("make", 1, 0, 250).keeps(0, "dredged", 0, 0, 0).keeps(0, "dredged", 0, 0, 1).made("make", 0, 0, 250)
            .keeps(-4, "dredged", 0, 0, 0).keeps(-4, "dredged", 0, 0, 1);
        t.again().made("make", 0, 0, 250).made("make", 1, 0, 249).keeps(1, "dredged", 0, 0, 0).keeps(0, "dredged", 0, 0, 1);
        s.says(TERMS, "saves most of THE LEAST TIME from a MINUTE;");
        // 95: pace 2 (0.63 sunk: 30 minutes), 96: pace 3 (1.4: 20 minutes), which saves 10; 99 saves 2 only.
        Tried most = t.again().made("mile", 95, 40).keeps(10 + 12 + 30, "least", 0, 0, -1).keeps(2, "dredged", 0, 0, 0)
            .keeps(10, "dredged", 0, 0, 1);
        // At high water both are deep, and none saves.
        most.made("height", 5, 99).keeps(0, "dredged", 0, 300, 0).keeps(0, "dredged", 0, 300, 1);
        s.says(TERMS, "of like ones the first; and how much.");
        t.again().made("mile", 99, 40).keeps(1, "dredged", 0, 0, 0).keeps(2, "dredged", 0, 0, 1);
        t.again().made("make", 0, 0, 99).keeps(0, "dredged", 0, 0, 0).keeps(2, "dredged", 0, 0, 1);
        t.again().made("make", 1, 0, 100).keeps(0, "dredged", 0, 0, 0).keeps(0, "dredged", 0, 0, 1);
    }

    private void termsOfLost() {
        s.says(TERMS, "LOST by a RULE (0, 1) and a LEAST (0 .. 99):");
        one().bounds(0, 1, 2, "lost", 0, 0, 0, 5).bounds(0, 99, 3, "lost", 0, 0, 0, 0).bounds(0, 99, 3, "lost", 0, 0, 1, 0);
        s.says(TERMS, "THE LEAST TIME by these less that by LEAST 0.");
        // By 0: 7 minutes; by 10: 30; by 11 and 12 hundredths 9 and 10: 20, 30; by 13: 11. The rule that is set does not matter.
        for (int rule = 0; rule < 2; rule++) {
            Tried t = one().made("set", 3, rule).made("set", 4, 99).keeps(0, "lost", 0, 0, 0, 0).keeps(0, "lost", 0, 0, 1, 0);
            t.keeps(3, "lost", 0, 0, 0, 5).keeps(23, "lost", 0, 0, 0, 10).keeps(-4, "lost", 0, 0, 0, 11);
            // 99: 9 at rest, pace 8 sinks 9, pace 7 sinks 7; 98: 8 at rest, pace 7 sinks 7, pace 8 sinks 9.
            t.again().made("make", 0, 0, 99).keeps(0, "lost", 0, 0, 0, 0).keeps(1, "lost", 0, 0, 0, 1).keeps(1, "lost", 0, 0, 0, 2);
            t.again().made("make", 0, 0, 98).keeps(0, "lost", 0, 0, 0, 0).keeps(0, "lost", 0, 0, 0, 1).keeps(2, "lost", 0, 0, 0, 2);
            t.keeps(13, "lost", 0, 0, 1, 11).keeps(23, "lost", 0, 0, 1, 12).keeps(-4, "lost", 0, 0, 1, 13);
        }
    }

    private void termsOfTouched() {
        s.says(TERMS, "TOUCHED: WINDS (0 .. 9) by which a RUN of hers from a MINUTE by the PLAN touches at a told MILE.");
        // By pace 5: 100 less 90, 3 and thrice the wind in mile 0; 97 less 90, 3 (4 from wind 2 on) and thrice the wind in mile 1.
        Tried t = one().made("mile", 97, 40).made("pace", 0, 5).made("pace", 1, 5);
        t.keeps(0b1111111000, "touched", 0, 0, 0).keeps(0b0000000100, "touched", 0, 0, 1).made("set", 1, 9)
            .keeps(0b0000000100, "touched", 0, 0, 1);
        t.made("pace", 1, 1).keeps(0, "touched", 0, 0, 1).made("pace", 1, 8).keeps(0b0000000111, "touched", 0, 0, 1);
        t.made("height", 5, 99).keeps(0, "touched", 0, 300, 0).keeps(0, "touched", 0, 300, 1);
        // Mile 0 by pace 1 takes 60 minutes, behind which it is low again.
        t.made("pace", 0, 1).made("make", 0, 0, 250).keeps(0b1111111111, "touched", 0, 300 - 120, 1).keeps(0, "touched", 0, 240, 1);
    }

    private void least() {
        Tried t = one().made("mile", 99, 40);
        s.says(19, "THE LEAST TIME (-1), the PACE in a MILE (0 .. 15).");
        t.keeps(22, "least", 0, 0, -1).keeps(6, "least", 0, 0, 0).keeps(5, "least", 0, 0, 1);
        Tried all = s.fresh().made("ship", 20, 1, 1);
        for (int mile = 0; mile < 16; mile++) all.made("mile", 250, 99);
        for (int mile = 0; mile < 16; mile++) all.keeps(13, "least", 0, 0, mile);
        all.bounds(-1, 15, 2, "least", 0, 0, 0);
        s.says(19, "BAD; NOT: there are no MILES;");
        t.bounds(0, 0, 0, "least", 0, 0, -1).bounds(0, 1439, 1, "least", 0, 0, 0);
        Tried none = s.fresh().made("ship", 90, 20, 30).keeps(-2, "least", 0, 0, -1).keeps(-2, "least", 0, 1439, 0)
            .keeps(-2, "least", 0, 0, 15);
        none.keeps(-1, "least", 0, 0, 16).keeps(-1, "least", 0, 0, -2).keeps(-1, "least", 0, 1440, -1).keeps(-1, "least", 0, -1, -1)
            .keeps(-1, "least", 1, 0, -1).keeps(-1, "least", -1, 0, -1);
        s.says(19, "then BAD: no such MILE;");
        t.keeps(-1, "least", 0, 0, 2).keeps(-1, "least", 0, 0, 15).keeps(-1, "least", 0, 0, 16);
        s.says(19, "NONE: by no PLAN.");
        t.made("set", 4, 10).keeps(-4, "least", 0, 0, -1).keeps(-4, "least", 0, 0, 0).keeps(-4, "least", 0, 0, 1)
            .keeps(-1, "least", 0, 0, 2);
        t.made("set", 4, 9).keeps(20 + 30, "least", 0, 0, -1);
    }

    private void starts() {
        s.says(20, "STARTS: how many (0), the first (1), the last (2).");
        starts(tidal(90, 5), 111, 245, 355);
        starts(tidal(90, 0), 111, 0, 1439);
        s.says(20, "BAD; NOT: there are no MILES;");
        one().bounds(0, 0, 0, "starts", 0, 0).bounds(0, 2, 1, "starts", 0, 0);
        Tried none = s.fresh().made("ship", 90, 20, 30);
        for (int what = 0; what < 3; what++) none.keeps(-2, "starts", 0, what);
        none.keeps(-1, "starts", 0, 3).keeps(-1, "starts", 0, -1).keeps(-1, "starts", 1, 0);
        s.says(20, "NONE: there are none (1, 2).");
        starts(tidal(34, 5), 0, -4, -4);
    }

    private void deepest() {
        s.says(21, "DEEPEST.");
        one().keeps(95, "deepest", 0, 0).made("set", 4, 80).keeps(20, "deepest", 0, 0);
        s.says(21, "BAD; NOT: there are no MILES; NONE.");
        one().bounds(0, 0, 0, "deepest", 0, 0).bounds(0, 1439, 1, "deepest", 0, 0).made("set", 4, 81).keeps(-4, "deepest", 0, 0);
        s.fresh().made("ship", 90, 20, 30).keeps(-2, "deepest", 0, 1439).keeps(-1, "deepest", 0, 1440).keeps(-1, "deepest", 1, 0)
            .keeps(-1, "deepest", 0, -1);
    }

    private void day() {
        Tried t = tidal(90, 5).made("ship", 40, 1, 30).made("ship", 90, 1, 30);
        s.says(27, "A DAY: the sum of STARTS (-1), the SHIP that goes k-th (0 ..).");
        t.keeps(0 + 245 + 246, "day", 7, 1, -1).keeps(1, "day", 7, 1, 0).keeps(0, "day", 7, 1, 1).keeps(2, "day", 7, 1, 2);
        s.says(27, "BAD: also no SHIP, one that is not there;");
        t.keeps(-1, "day", 0, 1, -1).keeps(-1, "day", 8, 1, -1).keeps(-1, "day", 9, 1, -1).keeps(-1, "day", 64, 1, -1)
            .keeps(-1, "day", Integer.MIN_VALUE, 1, -1);
        t.bounds(1, 7, 0, "day", 0, 1, -1).bounds(1, 240, 1, "day", 2, 0, 0).bounds(-1, 5, 2, "day", 7, 1, 0);
        s.says(27, "NOT: there are no MILES;");
        Tried none = s.fresh().made("ship", 90, 20, 30).keeps(-2, "day", 1, 1, -1).keeps(-2, "day", 1, 240, 5);
        none.keeps(-1, "day", 0, 1, -1).keeps(-1, "day", 2, 1, -1).keeps(-1, "day", 1, 0, -1).keeps(-1, "day", 1, 241, -1)
            .keeps(-1, "day", 1, 1, -2).keeps(-1, "day", 1, 1, 6);
        s.says(27, "NONE: by no order; there is no k-th.");
        t.keeps(-4, "day", 7, 1, 3).keeps(-4, "day", 7, 1, 5).keeps(-4, "day", 2, 1, 1).keeps(-4, "day", 7, 111, -1)
            .keeps(-4, "day", 7, 111, 0).keeps(-4, "day", 7, 111, 5);
        t.keeps(-4, "day", 5, 240, 0).made("height", 5, 0).keeps(-4, "day", 1, 1, -1).keeps(-4, "day", 1, 1, 0).keeps(-4, "day", 3, 1, -1)
            .keeps(0, "day", 2, 1, -1);
    }

    private void dredged() {
        Tried t = one().made("mile", 99, 40);
        s.says(28, "DREDGED: the MILE (0), MINUTES saved (1).");
        t.keeps(1, "dredged", 0, 0, 0).keeps(2, "dredged", 0, 0, 1).keeps(1, "dredged", 0, 1439, 0);
        s.says(28, "BAD; NOT: there are no MILES;");
        t.bounds(0, 0, 0, "dredged", 0, 0, 0).bounds(0, 1439, 1, "dredged", 0, 0, 0).bounds(0, 1, 2, "dredged", 0, 0, 0);
        Tried none = s.fresh().made("ship", 90, 20, 30).keeps(-2, "dredged", 0, 0, 0).keeps(-2, "dredged", 0, 1439, 1);
        none.keeps(-1, "dredged", 0, 0, 2).keeps(-1, "dredged", 0, 0, -1).keeps(-1, "dredged", 0, 1440, 0).keeps(-1, "dredged", 1, 0, 0);
        s.says(28, "NONE: THE LEAST TIME is none as it is; all are 250 deep.");
        // 94 has 4, which is less than 5; one more would do.
        t.again().made("make", 1, 0, 94).keeps(-4, "dredged", 0, 0, 0).keeps(-4, "dredged", 0, 0, 1).made("make", 1, 0, 95)
            .keeps(1, "dredged", 0, 0, 0).keeps(10, "dredged", 0, 0, 1);
        t.again().made("make", 0, 0, 250).made("make", 1, 0, 250).keeps(-4, "dredged", 0, 0, 0).keeps(-4, "dredged", 0, 0, 1)
            .made("make", 1, 0, 249).keeps(1, "dredged", 0, 0, 0);
    }

    private void lost() {
        s.says(29, "LOST.");
        one().keeps(3, "lost", 0, 0, 0, 5).keeps(23, "lost", 0, 1439, 0, 10).keeps(0, "lost", 0, 0, 1, 1).keeps(5, "need", 0);
        s.says(29, "BAD; NOT: there are no MILES;");
        one().bounds(0, 0, 0, "lost", 0, 0, 0, 5).bounds(0, 1439, 1, "lost", 0, 0, 0, 5).bounds(0, 1, 2, "lost", 0, 0, 0, 5)
            .bounds(0, 99, 3, "lost", 0, 0, 0, 5);
        Tried none = s.fresh().made("ship", 90, 20, 30).keeps(-2, "lost", 0, 0, 0, 0).keeps(-2, "lost", 0, 1439, 1, 99);
        none.keeps(-1, "lost", 0, 0, 2, 0).keeps(-1, "lost", 0, 0, 0, 100).keeps(-1, "lost", 0, 1440, 0, 0).keeps(-1, "lost", 1, 0, 0, 0);
        s.says(29, "NONE: by no PLAN (either).");
        one().keeps(-4, "lost", 0, 0, 0, 11).keeps(-4, "lost", 0, 0, 0, 99).made("make", 0, 0, 89).keeps(-4, "lost", 0, 0, 0, 0)
            .keeps(-4, "lost", 0, 0, 1, 0).keeps(-4, "lost", 0, 0, 0, 1);
    }

    private void touched() {
        Tried t = one().made("mile", 97, 40).made("pace", 0, 5).made("pace", 1, 5);
        s.says(30, "TOUCHED, as a set of WINDS, at a MILE (0 .. 15).");
        t.keeps(0b1111111000, "touched", 0, 0, 0).keeps(0b0000000100, "touched", 0, 0, 1);
        Tried all = s.fresh().made("ship", 90, 1, 1);
        for (int mile = 0; mile < 16; mile++) all.made("mile", mile < 15 ? 250 : 89, 99);
        all.keeps(0, "touched", 0, 0, 0).keeps(0, "touched", 0, 0, 14).keeps(1023, "touched", 0, 0, 15)
            .bounds(0, 15, 2, "touched", 0, 0, 0);
        s.says(30, "BAD; NOT: there are no MILES;");
        t.bounds(0, 0, 0, "touched", 0, 0, 0).bounds(0, 1439, 1, "touched", 0, 0, 0);
        Tried none = s.fresh().made("ship", 90, 20, 30).keeps(-2, "touched", 0, 0, 0).keeps(-2, "touched", 0, 1439, 15);
        none.keeps(-1, "touched", 0, 0, 16).keeps(-1, "touched", 0, 0, -1).keeps(-1, "touched", 0, 1440, 0).keeps(-1, "touched", 1, 0, 0);
        s.says(30, "then BAD: no such MILE.");
        t.keeps(-1, "touched", 0, 0, 2).keeps(-1, "touched", 0, 0, 15).keeps(-1, "touched", 0, 0, 16);
    }
}
