/** Promises 22 to 26 and 31, and what the terms say of banks, steering, meetings and quays. */
final class MeetingSentences {
    private static final int TERMS = Sentences.TERMS;
    /** By gain and lag, reckoned apart from the program. */
    private static final int[][] GROWS = {
        {8, 8, 8, 8, 8, 8}, {0, 25, 15, 9, 8, 8}, {0, 9, 5, 5, 5, 5}, {0, 7, 4, 4, 4, 4}, {0, 6, 4, 4, 4, 4},
        {0, 3, 3, 3, 3, 3}, {0, 3, 3, 3, 3, 3}, {0, 3, 3, 3, 3, 3}, {0, 3, 3, 3, 3, 3}, {0, 2, 2, 2, 2, 2}};
    private final Sentences s;

    MeetingSentences(Sentences sentences) {
        s = sentences;
    }

    void all() {
        termsOfBanks();
        termsOfSteering();
        termsOfMeetings();
        where();
        termsOfQuays();
        bank();
        nearest();
        steered();
        may();
        meet();
        past();
    }

    private Tried two() {
        return s.fresh().made("ship", 100, 20, 31).made("ship", 90, 11, 30);
    }

    private void termsOfBanks() {
        s.says(TERMS, "BANK: at a PACE, so far (1 .. 99) from a bank,");
        two().bounds(1, 99, 2, "bank", 0, 8, 0).bounds(1, 15, 1, "bank", 0, 0, 9);
        s.says(TERMS, "she is drawn by PACE PACE BREADTH by (that times that): the RUDDER holds her, if that is no more than RUDDER");
        // At pace 5 she is drawn by 500: by 16 to 31, by 9 to 55. 31 is what the rudder holds, 32 (512 by 16) is not.
        two().keeps(1, "bank", 0, 5, 4).keeps(0, "bank", 0, 5, 3).keeps(1, "bank", 0, 5, 5);
        s.fresh().made("ship", 100, 8, 31).made("ship", 100, 8, 32).keeps(0, "bank", 0, 8, 4).keeps(1, "bank", 1, 8, 4);
        s.fresh().made("ship", 100, 40, 1).keeps(1, "bank", 0, 15, 68).keeps(0, "bank", 0, 15, 67).keeps(1, "bank", 0, 15, 99)
            .keeps(0, "bank", 0, 15, 1);
        s.says(TERMS, "(as it is: at PACE 1 .. 3 half, cut).");
        // Half of 31 is 15: at pace 1 drawn by 15 and 16, at pace 2 by 60, 64 by 4, at pace 3 by 135, 144 by 9.
        Tried t = s.fresh().made("ship", 100, 15, 31).made("ship", 100, 16, 31).made("ship", 100, 30, 31).made("ship", 100, 31, 31)
            .made("ship", 100, 32, 31);
        for (int pace = 1; pace <= 3; pace++) t.keeps(1, "bank", 0, pace, pace).keeps(0, "bank", 1, pace, pace);
        for (int pace = 4; pace <= 15; pace++) t.keeps(1, "bank", 3, pace, pace).keeps(0, "bank", 4, pace, pace);
        // Half of 1 is 0: she is held where she is drawn by less than 1.
        s.fresh().made("ship", 100, 1, 1).keeps(0, "bank", 0, 1, 1).keeps(1, "bank", 0, 1, 2).keeps(0, "bank", 0, 3, 3)
            .keeps(1, "bank", 0, 3, 4).keeps(1, "bank", 0, 4, 4);
        s.says(TERMS, "NEAREST: the least distance at which it does.");
        two().keeps(4, "nearest", 0, 5).keeps(2, "nearest", 0, 1).keeps(4, "nearest", 0, 3).keeps(4, "nearest", 0, 4);
        s.fresh().made("ship", 100, 1, 99).keeps(1, "nearest", 0, 7).keeps(1, "nearest", 0, 9).keeps(2, "nearest", 0, 10);
    }

    private void termsOfSteering() {
        s.says(TERMS, "STEERED by a rule with gain g (0 .. 9) and lag l (0 .. 5):");
        s.fresh().bounds(0, 9, 0, "steered", 0, 0).bounds(0, 5, 1, "steered", 0, 0).bounds(0, 9, 0, "steered", 0, 5)
            .bounds(0, 5, 1, "steered", 9, 0);
        s.says(TERMS, "she is 8 off the line behind STEP 0 and all STEPS ahead of that,");
        // Gain 9 is 18 less in each of the first steps, by any lag from 1 on: 8, -9, -45.
        for (int lag = 1; lag <= 5; lag++) s.fresh().keeps(2, "steered", 9, lag);
        // Gain 5: 8, -1, -21, then -41 or -52.
        for (int lag = 1; lag <= 5; lag++) s.fresh().keeps(3, "steered", 5, lag);
        s.says(TERMS, "her pace aside is 0;");
        // 8 and 1, 2, 3 .. 8 more: 9, 11, 14, 18, 23, 29, 36, 44.
        s.fresh().keeps(8, "steered", 0, 0);
        s.says(TERMS, "in each STEP 1 .. 60 it becomes less by g times where she was behind the STEP l and 1 ahead of this one, by 4;");
        for (int gain = 0; gain <= 4; gain++) row(gain);
        s.says(TERMS, "then 1 more, if she is off above 0 (behind the STEP ahead), 1 less, if below 0;");
        s.fresh().keeps(25, "steered", 1, 1).keeps(15, "steered", 1, 2).keeps(9, "steered", 2, 1);
        s.says(TERMS, "then she goes by it: she GROWS, if she is 40 or more off then, to either side.");
        // Gain 8 comes to -39 behind step 2, which is not yet grown; gain 2 by lag 2 to -41 behind step 5; gain 0 to 44.
        s.fresh().keeps(3, "steered", 8, 1).keeps(5, "steered", 2, 2).keeps(8, "steered", 0, 5);
    }

    private void row(int gain) {
        for (int lag = 0; lag <= 5; lag++) s.fresh().keeps(GROWS[gain][lag], "steered", gain, lag);
    }

    private void termsOfMeetings() {
        s.says(TERMS, "MEETING: two of opposite ways at a MILE by PACES p and q may be, if WIDTH is BREADTH of both and (p and q) times (p and q) by 20, together, or more.");
        // 20 and 11 and 121 by 20 are 37; 2 2 by 20 is 0, 30 30 by 20 is 45.
        Tried t = two().made("mile", 100, 37).keeps(1, "may", 0, 1, 0, 5, 6).keeps(0, "may", 0, 1, 0, 6, 6).keeps(1, "may", 1, 0, 0, 6, 5);
        t.made("make", 0, 1, 36).keeps(0, "may", 0, 1, 0, 5, 6).made("make", 0, 1, 31).keeps(1, "may", 0, 1, 0, 1, 1).made("make", 0, 1, 30)
            .keeps(0, "may", 0, 1, 0, 1, 1);
        t.made("make", 0, 1, 76).keeps(1, "may", 0, 1, 0, 15, 15).made("make", 0, 1, 75).keeps(0, "may", 0, 1, 0, 15, 15);
        // 4 4 by 20 is 0, 5 5 by 20 is 1.
        t.made("make", 0, 1, 31).keeps(1, "may", 0, 1, 0, 1, 3).keeps(0, "may", 0, 1, 0, 1, 4);
        s.fresh().made("ship", 90, 40, 1).made("ship", 90, 40, 1).made("mile", 100, 99).keeps(1, "may", 0, 1, 0, 9, 10)
            .keeps(0, "may", 0, 1, 0, 10, 10);
    }

    private Tried channel(int miles) {
        Tried t = two();
        for (int mile = 0; mile < miles; mile++) t.made("mile", 100, 50);
        return t;
    }

    private void where() {
        s.says(TERMS, "Of two SHIPS, the one from MILE 0 on at a MINUTE, the other one from the last MILE back at another one,");
        Tried t = channel(5).keeps(2, "meet", 0, 0, 6, 1, 0, 6).keeps(4, "meet", 0, 0, 6, 1, 49, 6).keeps(0, "meet", 0, 49, 6, 1, 0, 6);
        t.keeps(0, "meet", 0, 0, 1, 1, 0, 15).keeps(4, "meet", 0, 0, 15, 1, 0, 1).keeps(2, "meet", 1, 1439, 6, 0, 1439, 6);
        channel(1).keeps(0, "meet", 0, 0, 1, 1, 59, 1).keeps(0, "meet", 0, 59, 1, 1, 0, 1).keeps(-4, "meet", 0, 60, 1, 1, 0, 1)
            .keeps(-4, "meet", 0, 0, 1, 1, 60, 1);
        // 16 miles of 60 minutes: the other one comes when one is in the last minute of the last mile, or out.
        channel(16).keeps(15, "meet", 0, 0, 1, 1, 959, 1).keeps(-4, "meet", 0, 0, 1, 1, 960, 1).keeps(0, "meet", 0, 959, 1, 1, 0, 1)
            .keeps(-4, "meet", 0, 960, 1, 1, 0, 1);
        s.says(TERMS, "each by its one PACE (each MILE 60 by PACE MINUTES):");
        // Paces 7 and 8 take 8 and 7 minutes; the plan does not matter.
        Tried paces = channel(2).made("pace", 0, 1).made("pace", 1, 1);
        paces.keeps(1, "meet", 0, 0, 7, 1, 15, 8).keeps(-4, "meet", 0, 0, 7, 1, 16, 8).keeps(1, "meet", 0, 0, 8, 1, 13, 7)
            .keeps(-4, "meet", 0, 0, 8, 1, 14, 7);
        for (int pace = 13; pace <= 15; pace++) paces.keeps(1, "meet", 0, 0, pace, 1, 7, 1).keeps(-4, "meet", 0, 0, pace, 1, 8, 1);
        s.says(TERMS, "the first MILE in which both are at some MINUTE.");
        // By paces of 10 minutes one is in mile 1 from 10 to 19: the other one comes to it at 19, or at 20, when one is out.
        Tried three = channel(3).keeps(1, "meet", 0, 0, 6, 1, 9, 6).keeps(-4, "meet", 0, 0, 6, 1, 10, 6)
            .keeps(2, "meet", 0, 0, 6, 1, 11, 6);
        three.keeps(1, "meet", 0, 9, 6, 1, 0, 6).keeps(-4, "meet", 0, 10, 6, 1, 0, 6).keeps(0, "meet", 0, 11, 6, 1, 0, 6);
    }

    private void termsOfQuays() {
        s.says(TERMS, "PAST a QUAY: the greatest PACE (1 .. 15) by which PACE PACE BREADTH by QUAY is no more than told.");
        // 20 pace pace by 7: 2, 11, 25, 45, .. 560, 642.
        Tried t = two().made("mile", 100, 50).made("make", 0, 4, 7).keeps(-4, "past", 0, 0, 1).keeps(1, "past", 0, 0, 2)
            .keeps(1, "past", 0, 0, 10);
        t.keeps(2, "past", 0, 0, 11).keeps(14, "past", 0, 0, 641).keeps(15, "past", 0, 0, 642).keeps(15, "past", 0, 0, 999);
        t.made("make", 0, 4, 40).keeps(1, "past", 0, 0, 0).made("make", 0, 4, 21).keeps(1, "past", 0, 0, 0).made("make", 0, 4, 20)
            .keeps(-4, "past", 0, 0, 0);
    }

    private void bank() {
        s.says(22, "Whether the RUDDER holds her (1, 0).");
        two().keeps(1, "bank", 0, 5, 4).keeps(0, "bank", 0, 5, 3).keeps(1, "bank", 1, 15, 99);
        s.says(22, "BAD: also far 0.");
        two().keeps(-1, "bank", 0, 5, 0).bounds(0, 1, 0, "bank", 0, 5, 4).bounds(1, 15, 1, "bank", 0, 5, 4)
            .bounds(1, 99, 2, "bank", 0, 5, 4);
        s.fresh().keeps(-1, "bank", 0, 5, 4);
    }

    private void nearest() {
        s.says(23, "NEAREST (1 .. 99).");
        // The most that a ship is drawn: 9000, which the least rudder holds from 4501 on (68 68 are 4624); half of 1 from 361 on.
        s.fresh().made("ship", 100, 1, 99).made("ship", 100, 40, 1).keeps(1, "nearest", 0, 1).keeps(68, "nearest", 1, 15)
            .keeps(19, "nearest", 1, 3);
        s.says(23, "BAD; NONE.");
        // No ship has none: 9000 by 99 99 is 0.
        two().bounds(0, 1, 0, "nearest", 0, 5).bounds(1, 15, 1, "nearest", 0, 0);
        s.fresh().keeps(-1, "nearest", 0, 5);
    }

    private void steered() {
        s.says(24, "STEERED: the first STEP in which she GROWS, 0: none.");
        for (int gain = 0; gain <= 9; gain++) row(gain);
        s.says(24, "BAD.");
        s.fresh().bounds(0, 9, 0, "steered", 0, 2).bounds(0, 5, 1, "steered", 3, 0);
    }

    private void may() {
        s.says(25, "Whether a MEETING may be (1, 0).");
        two().made("mile", 100, 37).keeps(1, "may", 0, 1, 0, 5, 6).keeps(0, "may", 0, 1, 0, 6, 6);
        s.says(25, "BAD: also one.");
        Tried t = two().made("ship", 80, 5, 5).made("mile", 100, 37).made("mile", 100, 50);
        for (int ship = 0; ship < 3; ship++) t.keeps(-1, "may", ship, ship, 0, 5, 6);
        t.bounds(0, 1, 0, "may", 0, 2, 0, 5, 6).bounds(0, 1, 1, "may", 2, 0, 0, 5, 6).keeps(-1, "may", 3, 0, 0, 5, 6)
            .keeps(-1, "may", 0, 3, 0, 5, 6);
        t.bounds(0, 1, 2, "may", 0, 1, 0, 5, 6).bounds(1, 15, 3, "may", 0, 1, 0, 0, 6).bounds(1, 15, 4, "may", 0, 1, 0, 5, 0);
        two().keeps(-1, "may", 0, 1, 0, 5, 6);
    }

    private void meet() {
        s.says(26, "Where two MEET (of MINUTES 0 .. 1439).");
        Tried t = channel(5).made("ship", 80, 5, 5).bounds(0, 1439, 1, "meet", 0, 0, 6, 1, 0, 6)
            .bounds(0, 1439, 4, "meet", 0, 0, 6, 1, 0, 6);
        t.keeps(2, "meet", 0, 1439, 6, 1, 1439, 6);
        s.says(26, "BAD: also one; NOT: there are no MILES; NONE: nowhere.");
        for (int ship = 0; ship < 3; ship++) t.keeps(-1, "meet", ship, 0, 6, ship, 0, 6);
        for (int at : new int[] {-1, 3, Integer.MIN_VALUE, Integer.MAX_VALUE}) t.keeps(-1, "meet", at, 0, 6, 1, 0, 6)
            .keeps(-1, "meet", 1, 0, 6, at, 0, 6);
        t.bounds(1, 15, 2, "meet", 0, 0, 6, 1, 0, 6).bounds(1, 15, 5, "meet", 0, 0, 6, 2, 0, 6);
        t.keeps(-4, "meet", 0, 0, 6, 1, 1439, 6).keeps(-4, "meet", 0, 1439, 6, 1, 0, 6);
        Tried none = two().keeps(-2, "meet", 0, 0, 6, 1, 1439, 6).keeps(-1, "meet", 1, 0, 6, 1, 0, 6)
            .keeps(-1, "meet", 0, 1440, 6, 1, 0, 6);
        none.keeps(-1, "meet", 0, 0, 16, 1, 0, 6).keeps(-1, "meet", 0, 0, 6, 2, 0, 6);
    }

    private void past() {
        s.says(31, "PAST a QUAY in a MILE.");
        Tried t = two().made("mile", 100, 50).made("mile", 100, 50).made("make", 1, 4, 7).keeps(3, "past", 0, 1, 25)
            .keeps(2, "past", 0, 1, 24).keeps(3, "past", 1, 1, 24);
        s.says(31, "BAD (most 0 .. 999);");
        t.bounds(0, 999, 2, "past", 0, 1, 0).bounds(0, 1, 0, "past", 0, 1, 5).bounds(0, 1, 1, "past", 0, 0, 5);
        s.says(31, "NOT: there is none;");
        t.keeps(-2, "past", 0, 0, 0).keeps(-2, "past", 0, 0, 999).keeps(-1, "past", 0, 0, 1000).keeps(-1, "past", 0, 0, -1)
            .keeps(-1, "past", 2, 0, 0);
        t.again().made("make", 1, 4, 0).keeps(-2, "past", 0, 1, 25).made("make", 0, 4, 1).keeps(1, "past", 0, 0, 20);
        s.says(31, "NONE: not even PACE 1.");
        t.keeps(-4, "past", 0, 1, 1).keeps(1, "past", 0, 1, 2).keeps(-4, "past", 0, 1, 0);
    }
}
