/** Promises 13 to 18, and what the terms say of the tide, water, what is under a ship and runs. */
final class WaterSentences {
    private static final int TERMS = Sentences.TERMS;
    private static final int[] TAKES = {60, 30, 20, 15, 12, 10, 8, 7, 6, 6, 5, 5, 4, 4, 4};
    private final Sentences s;

    WaterSentences(Sentences sentences) {
        s = sentences;
    }

    void all() {
        termsOfTheTide();
        termsOfWater();
        termsOfNeed();
        termsOfRuns();
        touches();
        byRule();
        tide();
        waterAndUnder();
        run();
    }

    /** 10 at hour 0, 3 at hour 1, 60 at hour 18, 99 at hour 23, else 0. */
    private Tried tidal() {
        return s.fresh().made("height", 0, 10).made("height", 1, 3).made("height", 18, 60).made("height", 23, 99);
    }

    /** A mile of 250, 99 wide, and a ship of 90, 1 broad, who sinks 0 there at any pace: 225 90 by 74250. */
    private Tried deep() {
        return s.fresh().made("mile", 250, 99).made("ship", 90, 1, 30);
    }

    private void termsOfTheTide() {
        s.says(TERMS, "At a MINUTE (0 ..) it is that of LATE MINUTES ahead");
        tidal().keeps(10, "tide", 0).keeps(3, "tide", 60).made("set", 0, 1).keeps(10, "tide", 1).keeps(3, "tide", 61).keeps(4, "tide", 60);
        tidal().made("set", 0, 90).keeps(10, "tide", 90).keeps(3, "tide", 150).keeps(60, "tide", 1170);
        s.says(TERMS, "(as a remainder by 1440):");
        Tried t = tidal().keeps(12, "tide", 1439).keeps(10, "tide", 1440).keeps(4, "tide", 1499).keeps(12, "tide", 2879)
            .keeps(10, "tide", 2880);
        t.keeps(20, "tide", 4000);
        // One minute late: minute 0 has what minute 1439 had; 90 minutes: 22 hours 30; 59: 23 hours 1.
        t.made("set", 0, 1).keeps(12, "tide", 0).keeps(12, "tide", 1440).keeps(10, "tide", 1441);
        t.made("set", 0, 90).keeps(49, "tide", 0).keeps(99, "tide", 30).keeps(12, "tide", 89).keeps(49, "tide", 1440)
            .keeps(12, "tide", 1529);
        t.keeps(10, "tide", 4000).made("set", 0, 59).keeps(98, "tide", 0);
        s.says(TERMS, "at h hours and m minutes the height of h, and what that of h and 1 (behind 23: 0) is more, times m by 60.");
        // From 99 to 10 in the last hour: less by 1.48, 44.5, 87.5; from 0 to 99 ahead of it.
        Tried last = tidal().keeps(99, "tide", 1380).keeps(98, "tide", 1381).keeps(55, "tide", 1410).keeps(12, "tide", 1439)
            .keeps(97, "tide", 1379);
        last.made("height", 0, 99).keeps(99, "tide", 1439).made("height", 0, 0).keeps(2, "tide", 1439);
        s.fresh().made("height", 0, 60).keeps(1, "tide", 1381).keeps(59, "tide", 1439).keeps(60, "tide", 0).keeps(59, "tide", 1)
            .keeps(1, "tide", 59).keeps(0, "tide", 60);
    }

    private void termsOfWater() {
        s.says(TERMS, "WATER of a MILE at a MINUTE: DEPTH, MUD times SOFT by 10, THE TIDE, less twice WIND.");
        Tried t = s.fresh().made("mile", 20, 10).keeps(20, "water", 0, 0).made("set", 1, 9).keeps(2, "water", 0, 0);
        t.made("make", 0, 3, 20).keeps(2, "water", 0, 0).made("set", 2, 10).keeps(22, "water", 0, 0);
        t.made("make", 0, 3, 19).made("set", 2, 5).keeps(11, "water", 0, 0).made("make", 0, 3, 1).made("set", 2, 9).keeps(2, "water", 0, 0);
        t.made("set", 2, 10).keeps(3, "water", 0, 0).made("height", 23, 99).keeps(102, "water", 0, 1380).keeps(5, "water", 0, 1439);
        Tried most = s.fresh().made("mile", 250, 99).made("make", 0, 3, 20).made("set", 2, 10).made("height", 0, 99);
        most.keeps(369, "water", 0, 0).keeps(369, "water", 0, 2880).keeps(270, "water", 0, 60);
        s.says(TERMS, "SINKS of a SHIP at a PACE (1 .. 15): PACE PACE BREADTH DRAUGHT by (3 WIDTH WATER),");
        // 40 times 75 is 3000: 1 at pace 1 in 100 of 10 wide; one less broad sinks 0.
        Tried sinks = s.fresh().made("mile", 100, 10).made("ship", 75, 40, 1).made("ship", 75, 39, 1);
        sinks.keeps(1, "sinks", 0, 0, 0, 1).keeps(0, "sinks", 1, 0, 0, 1).keeps(225, "sinks", 0, 0, 0, 15).keeps(219, "sinks", 1, 0, 0, 15);
        sinks.bounds(1, 15, 3, "sinks", 0, 0, 0, 0).made("height", 0, 1).keeps(0, "sinks", 0, 0, 0, 1).made("set", 1, 1)
            .keeps(1, "sinks", 0, 0, 0, 1);
        s.says(TERMS, "WATER being 1 at least in it.");
        // The least water that can be is 20 less 18: the bound is never come to.
        Tried low = s.fresh().made("mile", 20, 10).made("set", 1, 9).made("ship", 200, 40, 1).keeps(2, "water", 0, 0);
        low.keeps(30000, "sinks", 0, 0, 0, 15).keeps(133, "sinks", 0, 0, 0, 1);
        s.says(TERMS, "UNDER her: WATER less DRAUGHT, DRAUGHT times (9 less SALT) by 400, SINKS, BREADTH times WIND by 20.");
        low.made("make", 0, 2, 0).keeps(2 - 200 - 4 - 30000 - 18, "under", 0, 0, 0, 15);
        // Fresh water: 396 and 405 by 400; salt 5: 396 and 400 by 400; salt 6: 399 by 400. Wind 1: 19 and 20 by 20.
        Tried edge = s.fresh().made("mile", 150, 99).made("ship", 133, 1, 1).made("ship", 134, 1, 1).made("make", 0, 2, 6);
        edge.keeps(17, "under", 0, 0, 0, 1).keeps(15, "under", 1, 0, 0, 1);
        Tried fresh = s.fresh().made("mile", 150, 99).made("ship", 44, 1, 1).made("ship", 45, 1, 1).made("ship", 99, 1, 1)
            .made("ship", 100, 1, 1);
        fresh.made("make", 0, 2, 0).keeps(106, "under", 0, 0, 0, 1).keeps(104, "under", 1, 0, 0, 1);
        fresh.made("make", 0, 2, 5).keeps(51, "under", 2, 0, 0, 1).keeps(49, "under", 3, 0, 0, 1);
        fresh.made("make", 0, 2, 9).keeps(51, "under", 2, 0, 0, 1).keeps(50, "under", 3, 0, 0, 1);
        fresh.made("ship", 44, 19, 1).made("ship", 44, 20, 1).keeps(106, "under", 4, 0, 0, 1).keeps(106, "under", 5, 0, 0, 1);
        fresh.made("set", 1, 1).keeps(104, "under", 4, 0, 0, 1).keeps(103, "under", 5, 0, 0, 1);
        sinks.keeps(99 - 75 - 1 - 2, "under", 0, 0, 0, 1).keeps(99 - 75 - 0 - 1, "under", 1, 0, 0, 1);
    }

    private void termsOfNeed() {
        s.says(TERMS, "NEED: LEAST, or by RULE 1 DRAUGHT times LEAST by 100.");
        Tried t = s.fresh().made("ship", 20, 1, 1).made("ship", 200, 1, 1).made("ship", 101, 1, 1);
        t.keeps(5, "need", 0).keeps(5, "need", 1).made("set", 4, 0).keeps(0, "need", 1).made("set", 4, 99).keeps(99, "need", 0)
            .keeps(99, "need", 1);
        t.made("set", 3, 1).keeps(19, "need", 0).keeps(198, "need", 1).keeps(99, "need", 2);
        t.made("set", 4, 4).keeps(0, "need", 0).keeps(8, "need", 1).made("set", 4, 5).keeps(1, "need", 0).made("set", 4, 0)
            .keeps(0, "need", 1);
    }

    private void termsOfRuns() {
        s.says(TERMS, "A RUN of a SHIP from a MINUTE (0 .. 1439)");
        deep().bounds(0, 1439, 1, "run", 0, 0, 0);
        s.says(TERMS, "by a PLAN (a PACE for each MILE; 8 each at first):");
        Tried plan = deep().made("mile", 250, 99).made("mile", 250, 99).keeps(21, "run", 0, 0, 1);
        plan.made("pace", 1, 1).keeps(74, "run", 0, 0, 1).made("pace", 0, 2).made("pace", 2, 3).keeps(110, "run", 0, 0, 1);
        s.says(TERMS, "she comes to MILE 0 then;");
        Tried from = s.fresh().made("mile", 90, 99).made("ship", 90, 1, 30).made("height", 0, 60);
        from.keeps(100060, "run", 0, 0, 2).keeps(100059, "run", 0, 1, 2).keeps(100059, "run", 0, 1439, 2);
        s.says(TERMS, "each MILE takes 60 by PACE MINUTES;");
        for (int pace = 1; pace <= 15; pace++) deep().made("pace", 0, pace).keeps(TAKES[pace - 1], "run", 0, 0, 1);
        Tried longest = s.fresh().made("ship", 20, 1, 1);
        for (int mile = 0; mile < 16; mile++) longest.made("mile", 250, 99).made("pace", mile, 1);
        longest.keeps(960, "run", 0, 1439, 1);
        s.says(TERMS, "UNDER is looked at when she comes to a MILE.");
        // From 60 at minute 0 the tide falls to 0 at minute 60: she is in mile 0 all the while, and comes to mile 1 then.
        Tried late = s.fresh().made("mile", 90, 99).made("mile", 120, 99).made("ship", 90, 1, 30).made("height", 0, 60).made("pace", 0, 1);
        late.keeps(-4, "run", 0, 0, 0).keeps(100030, "run", 0, 0, 2).made("pace", 0, 2).keeps(100060, "run", 0, 0, 2);
        // Minute 1439 and 60: of the next day's minute 59.
        late.made("pace", 0, 1).keeps(100031, "run", 0, 1439, 2);
        Tried slow = s.fresh().made("ship", 90, 1, 30).made("height", 15, 60);
        for (int mile = 0; mile < 16; mile++) slow.made("mile", mile < 15 ? 250 : 90, 99).made("pace", mile, 1);
        slow.keeps(100060, "run", 0, 0, 2).keeps(100000, "run", 0, 60, 2).keeps(100059, "run", 0, 1, 2);
    }

    private void touches() {
        s.says(TERMS, "She TOUCHES at the first MILE with UNDER below 0 (the RUN ends there).");
        Tried t = s.fresh().made("ship", 90, 1, 30).made("mile", 90, 99).made("mile", 90, 99).made("mile", 90, 99);
        t.keeps(-4, "run", 0, 0, 0).keeps(21, "run", 0, 0, 1).keeps(100000, "run", 0, 0, 2);
        t.made("make", 2, 0, 89).keeps(2, "run", 0, 0, 0).keeps(14, "run", 0, 0, 1).keeps(99999, "run", 0, 0, 2);
        // Mile 2 is lower still, but is not come to.
        t.made("make", 2, 0, 50).made("make", 1, 0, 89).keeps(1, "run", 0, 0, 0).keeps(7, "run", 0, 0, 1).keeps(99999, "run", 0, 0, 2);
        t.made("make", 0, 0, 89).keeps(0, "run", 0, 0, 0).keeps(0, "run", 0, 0, 1).keeps(99999, "run", 0, 0, 2);
    }

    private void byRule() {
        s.says(TERMS, "BY RULE: PLANS by which UNDER is NEED or more at each MILE.");
        Tried t = s.fresh().made("ship", 90, 1, 30).made("mile", 95, 99).made("mile", 95, 99).made("mile", 95, 99).keeps(1, "run", 0, 0, 3);
        for (int mile = 0; mile < 3; mile++) {
            t.made("make", mile, 0, 94).keeps(0, "run", 0, 0, 3).keeps(-4, "run", 0, 0, 0).made("make", mile, 0, 95);
        }
        t.made("set", 4, 6).keeps(0, "run", 0, 0, 3).made("set", 3, 1).keeps(1, "run", 0, 0, 3).made("set", 4, 7).keeps(0, "run", 0, 0, 3);
        t.made("set", 4, 0).made("make", 1, 0, 90).keeps(1, "run", 0, 0, 3).made("make", 1, 0, 89).keeps(0, "run", 0, 0, 3);
    }

    private void tide() {
        s.says(13, "THE TIDE at a MINUTE (0 .. 4000).");
        tidal().keeps(10, "tide", 0).keeps(20, "tide", 4000).keeps(21, "tide", 3999);
        s.says(13, "BAD.");
        tidal().bounds(0, 4000, 0, "tide", 0);
    }

    private void waterAndUnder() {
        Tried t = tidal().made("mile", 100, 40).made("mile", 110, 50).made("ship", 90, 20, 30).made("ship", 100, 10, 30);
        s.says(14, "WATER of a MILE at a MINUTE.");
        t.keeps(110, "water", 0, 0).keeps(120, "water", 1, 1440).keeps(120, "water", 0, 4000).keeps(122, "water", 1, 1439);
        s.says(14, "BAD less 100000.");
        t.bounds(0, 1, 0, "water", 0, 0).bounds(0, 4000, 1, "water", 0, 0);
        s.fresh().keeps(-100001, "water", 0, 0);
        s.says(15, "SINKS.");
        // 64 20 90 by (3 40 110), by (3 40 120).
        t.keeps(8, "sinks", 0, 0, 0, 8).keeps(8, "sinks", 0, 0, 4000, 8).keeps(3, "sinks", 1, 1, 1440, 8).keeps(0, "sinks", 1, 1, 0, 1);
        s.says(15, "BAD.");
        t.bounds(0, 1, 0, "sinks", 0, 0, 0, 8).bounds(0, 1, 1, "sinks", 0, 0, 0, 8).bounds(0, 4000, 2, "sinks", 0, 0, 0, 8)
            .bounds(1, 15, 3, "sinks", 0, 0, 0, 8);
        s.says(16, "UNDER her.");
        t.keeps(12, "under", 0, 0, 0, 8).keeps(22, "under", 0, 0, 4000, 8).keeps(17, "under", 1, 1, 1440, 8);
        t.keeps(-8, "under", 0, 0, 120, 11).keeps(0, "under", 1, 0, 120, 1);
        s.says(16, "BAD less 100000.");
        t.bounds(0, 1, 0, "under", 0, 0, 0, 8).bounds(0, 1, 1, "under", 0, 0, 0, 8).bounds(0, 4000, 2, "under", 0, 0, 0, 8)
            .bounds(1, 15, 3, "under", 0, 0, 0, 8);
        s.says(17, "NEED.");
        t.keeps(5, "need", 0).keeps(5, "need", 1);
        t.again().made("set", 3, 1).keeps(4, "need", 0).keeps(5, "need", 1);
        s.says(17, "BAD.");
        t.bounds(0, 1, 0, "need", 0);
    }

    private void run() {
        Tried t = s.fresh().made("mile", 95, 99).made("mile", 95, 99).made("ship", 90, 1, 30).made("ship", 91, 1, 30)
            .made("ship", 96, 1, 30);
        s.says(18, "A RUN from a MINUTE: the MILE at which she TOUCHES (0; NONE),");
        t.keeps(-4, "run", 0, 0, 0).keeps(0, "run", 2, 0, 0).again().made("make", 0, 0, 96).keeps(1, "run", 2, 0, 0);
        s.says(18, "MINUTES that it takes (1; up to that MILE, if she touches),");
        t.keeps(14, "run", 0, 0, 1).keeps(0, "run", 2, 0, 1).again().made("make", 0, 0, 96).keeps(7, "run", 2, 0, 1);
        s.says(18, "the least UNDER at a MILE (2; 100000 more than it is),");
        t.keeps(100005, "run", 0, 0, 2).keeps(99999, "run", 2, 0, 2).again().made("make", 1, 0, 90).keeps(100000, "run", 0, 0, 2);
        Tried low = s.fresh().made("mile", 20, 10).made("make", 0, 2, 0).made("set", 1, 9).made("ship", 200, 40, 1).made("pace", 0, 15);
        low.keeps(100000 - 30220, "run", 0, 0, 2);
        Tried high = s.fresh().made("mile", 250, 99).made("make", 0, 3, 20).made("set", 2, 10).made("height", 0, 99).made("ship", 20, 1, 1);
        high.keeps(100349, "run", 0, 0, 2);
        s.says(18, "whether it is BY RULE (3; 1, 0).");
        t.keeps(1, "run", 0, 0, 3).keeps(0, "run", 1, 0, 3).keeps(0, "run", 2, 0, 3);
        s.says(18, "BAD; NOT: there are no MILES.");
        t.bounds(0, 2, 0, "run", 0, 0, 0).bounds(0, 1439, 1, "run", 0, 0, 0).bounds(0, 3, 2, "run", 0, 0, 0);
        Tried none = s.fresh().made("ship", 90, 1, 30);
        for (int what = 0; what < 4; what++) none.keeps(-2, "run", 0, 1439, what);
        none.keeps(-1, "run", 0, 0, 4).keeps(-1, "run", 0, 0, -1).keeps(-1, "run", 0, 1440, 0).keeps(-1, "run", 0, -1, 0)
            .keeps(-1, "run", 1, 0, 0);
    }
}
