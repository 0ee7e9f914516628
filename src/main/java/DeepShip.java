/** A deep ship in shallow water: ../shared/DOC.md numbers and tells what each call promises. */
public final class DeepShip {
    public static final int BAD = -1, NOT = -2, FULL = -3, NONE = -4, NULL = -11, CAST = -12, INDEX = -13, SIZE = -14;

    /** Where a told thing may be below 0, a refusal lies so much lower that it can't be taken for one. */
    private static final int LOWER = 100000;

    private static final int MOST_MILES = 16, TEXT_MILES = 8, NO_MILE = -1;
    private static final int DEPTH = 0, WIDTH = 1, SALT = 2, MUD = 3, QUAY = 4, PLAN = 5, MARKS = 6;
    private static final int[] LOWEST_MARK = {20, 10, 0, 0, 0};
    private static final int[] HIGHEST_MARK = {250, 99, 9, 20, 40};

    private static final int HOURS = 24, DAY_MINUTES = 1440, LAST_MINUTE = 4000, HIGHEST_TIDE = 99;

    private static final int LATE = 0, WIND = 1, SOFT = 2, RULE = 3, LEAST = 4, SETTINGS = 5;
    private static final int[] HIGHEST_SETTING = {90, 9, 10, 1, 99};

    private static final int MOST_SHIPS = 6;
    private static final int DRAUGHT = 0, BREADTH = 1, RUDDER = 2, HULL = 3;
    private static final int LEAST_DRAUGHT = 20, MOST_DRAUGHT = 200;

    private static final int MOST_PACE = 15, FARTHEST = 99;

    /**
     * The paces that a quickest plan can need, and the minutes that each takes for a mile: of paces that take like
     * minutes (9 and 10, 11 and 12, 13 to 15) the slowest sinks least and comes first in a row, so that the others
     * never win.
     */
    private static final int[] PACES = {1, 2, 3, 4, 5, 6, 7, 8, 9, 11, 13};
    private static final int[] TAKES = {60, 30, 20, 15, 12, 10, 8, 7, 6, 5, 4};

    /** Rows of minutes are bits: 1440 starts and 16 miles of 60 minutes each are 2400 of them. */
    private static final int WORD = 64, SPAN = 2400, WORDS = 38, DAY_WORDS = 23;

    private static final int STEPS = 60, OFF_AT_FIRST = 8, GROWN = 40;

    private final Port port = new Port();
    private final Port kept = new Port();
    private final Trial trial = new Trial(port);
    private final Voyage voyage = new Voyage(port);
    private final Search search = new Search(port);
    private final Day order = new Day();
    private final Tape tape = new Tape();
    private final Sheets sheets = new Sheets();
    private final int[] off = new int[STEPS + 1];
    private boolean imaged = false;

    public DeepShip() {
    }

    // ---- 1 the channel, ships

    public int mile(int depth, int width) {
        if (!isMark(DEPTH, depth) || !isMark(WIDTH, width)) {
            return BAD;
        }
        return port.addMile(depth, width);
    }

    public int make(int mile, int what, int v) {
        if (!port.hasMile(mile) || !within(what, DEPTH, QUAY) || !isMark(what, v)) {
            return BAD;
        }
        return port.mark(mile, what, v);
    }

    public int told(int mile, int what) {
        if (!port.hasMile(mile) || !within(what, DEPTH, PLAN)) {
            return BAD;
        }
        return port.markOf(mile, what);
    }

    public int height(int hour, int v) {
        if (!within(hour, 0, HOURS - 1) || !within(v, 0, HIGHEST_TIDE)) {
            return BAD;
        }
        int was = port.heights[hour];
        port.heights[hour] = v;
        return was;
    }

    public int set(int what, int v) {
        if (!within(what, 0, SETTINGS - 1) || !within(v, 0, HIGHEST_SETTING[what])) {
            return BAD;
        }
        int was = port.settings[what];
        port.settings[what] = v;
        return was;
    }

    public int ship(int draught, int breadth, int rudder) {
        if (!within(draught, LEAST_DRAUGHT, MOST_DRAUGHT) || !within(breadth, 1, 40) || !within(rudder, 1, 99)) {
            return BAD;
        }
        return port.addShip(draught, breadth, rudder);
    }

    public int pace(int mile, int v) {
        if (!port.hasMile(mile) || !isPace(v)) {
            return BAD;
        }
        return port.mark(mile, PLAN, v);
    }

    public int type(long w, int n) {
        return tape.append(w, n);
    }

    public int channel() {
        int miles = tape.readChannel();
        if (miles > 0) {
            port.takeMiles(tape.found, miles);
        }
        return miles;
    }

    public int tides() {
        int greatest = tape.readTide();
        if (greatest >= 0) {
            System.arraycopy(tape.found, 0, port.heights, 0, HOURS);
        }
        return greatest;
    }

    public int count(int what) {
        switch (what) {
            case 0: return port.miles;
            case 1: return port.ships;
            case 2: return port.widths();
            default: return BAD;
        }
    }

    // ---- 2 water, runs

    public int tide(int minute) {
        return within(minute, 0, LAST_MINUTE) ? port.tideAt(minute) : BAD;
    }

    public int water(int mile, int minute) {
        if (!port.hasMile(mile) || !within(minute, 0, LAST_MINUTE)) {
            return BAD - LOWER;
        }
        return port.levelAt(mile, port.tideAt(minute), port.settings[WIND]);
    }

    public int sinks(int ship, int mile, int minute, int pace) {
        if (!isPlaced(ship, mile, minute, pace)) {
            return BAD;
        }
        trial.begin(ship);
        return trial.sinking(mile, trial.level(mile, port.tideAt(minute)), pace);
    }

    public int under(int ship, int mile, int minute, int pace) {
        if (!isPlaced(ship, mile, minute, pace)) {
            return BAD - LOWER;
        }
        trial.begin(ship);
        return trial.clearance(mile, port.tideAt(minute), pace);
    }

    public int need(int ship) {
        if (!port.hasShip(ship)) {
            return BAD;
        }
        trial.begin(ship);
        return trial.needed;
    }

    public int run(int ship, int minute, int what) {
        if (!isStart(ship, minute) || !within(what, 0, 3)) {
            return BAD;
        }
        if (port.miles == 0) {
            return NOT;
        }
        trial.begin(ship);
        voyage.sail(trial, minute);
        switch (what) {
            case 0: return voyage.touches;
            case 1: return voyage.minutes;
            case 2: return voyage.lowest + LOWER;
            default: return voyage.lowest >= trial.needed ? 1 : 0;
        }
    }

    public int least(int ship, int minute, int mile) {
        int refusal = refusalAt(ship, minute, mile, -1);
        if (refusal != 0) {
            return refusal;
        }
        trial.begin(ship);
        search.begin(trial);
        int minutes = search.quickest(minute);
        if (minutes == NONE || mile < 0) {
            return minutes;
        }
        return search.firstPace(minute, minutes, mile);
    }

    public int starts(int ship, int what) {
        if (!port.hasShip(ship) || !within(what, 0, 2)) {
            return BAD;
        }
        if (port.miles == 0) {
            return NOT;
        }
        long[] row = order.startsOf(ship);
        trial.begin(ship);
        search.begin(trial);
        search.findStarts(row);
        switch (what) {
            case 0: return bitsIn(row);
            case 1: return firstFrom(row, 0);
            default: return lastOf(row);
        }
    }

    public int deepest(int ship, int minute) {
        if (!isStart(ship, minute)) {
            return BAD;
        }
        if (port.miles == 0) {
            return NOT;
        }
        trial.begin(ship);
        search.layTide();
        int comes = LEAST_DRAUGHT - 1;
        // A deeper ship has less under her and needs no less, so steps that halve find the greatest.
        for (int more = 128; more >= 1; more /= 2) {
            if (comes + more <= MOST_DRAUGHT) {
                trial.load(comes + more);
                search.rule(trial);
                if (search.quickest(minute) != NONE) {
                    comes += more;
                }
            }
        }
        return comes < LEAST_DRAUGHT ? NONE : comes;
    }

    // ---- 3 banks, meetings, days

    public int bank(int ship, int pace, int far) {
        if (!port.hasShip(ship) || !isPace(pace) || !within(far, 1, FARTHEST)) {
            return BAD;
        }
        return isHeld(ship, pace, far) ? 1 : 0;
    }

    public int nearest(int ship, int pace) {
        if (!port.hasShip(ship) || !isPace(pace)) {
            return BAD;
        }
        for (int far = 1; far <= FARTHEST; far++) {
            if (isHeld(ship, pace, far)) {
                return far;
            }
        }
        return NONE;
    }

    public int steered(int gain, int lag) {
        if (!within(gain, 0, 9) || !within(lag, 0, 5)) {
            return BAD;
        }
        int aside = 0;
        off[0] = OFF_AT_FIRST;
        for (int step = 1; step <= STEPS; step++) {
            // Ahead of step 0 she was where she is behind it.
            int seen = off[Math.max(0, step - lag - 1)];
            aside += Integer.compare(off[step - 1], 0) - gain * seen / 4;
            off[step] = off[step - 1] + aside;
            if (Math.abs(off[step]) >= GROWN) {
                return step;
            }
        }
        return 0;
    }

    public int may(int one, int other, int mile, int p, int q) {
        if (!areTwo(one, other) || !port.hasMile(mile) || !isPace(p) || !isPace(q)) {
            return BAD;
        }
        int room = port.hullOf(one, BREADTH) + port.hullOf(other, BREADTH) + (p + q) * (p + q) / 20;
        return port.markOf(mile, WIDTH) >= room ? 1 : 0;
    }

    public int meet(int one, int minute, int p, int other, int minute2, int q) {
        if (!areTwo(one, other) || !isMinute(minute) || !isPace(p) || !isMinute(minute2) || !isPace(q)) {
            return BAD;
        }
        if (port.miles == 0) {
            return NOT;
        }
        int takes = minutesBy(p);
        int takesBack = minutesBy(q);
        for (int mile = 0; mile < port.miles; mile++) {
            int comes = minute + mile * takes;
            int comesBack = minute2 + (port.miles - 1 - mile) * takesBack;
            // In the minute in which she comes to the next mile, she is no more in this one.
            if (comes < comesBack + takesBack && comesBack < comes + takes) {
                return mile;
            }
        }
        return NONE;
    }

    public int day(int ships, int gap, int k) {
        if (ships == 0 || ships >>> port.ships != 0 || !within(gap, 1, 240) || !within(k, -1, MOST_SHIPS - 1)) {
            return BAD;
        }
        if (port.miles == 0) {
            return NOT;
        }
        search.layTide();
        for (int ship = 0; ship < port.ships; ship++) {
            if ((ships >> ship & 1) != 0) {
                trial.begin(ship);
                search.rule(trial);
                search.findStarts(order.startsOf(ship));
            }
        }
        int sum = order.arrange(ships, gap);
        return k < 0 || sum == NONE ? sum : order.goes(k);
    }

    public int dredged(int ship, int minute, int what) {
        if (!isStart(ship, minute) || !within(what, 0, 1)) {
            return BAD;
        }
        if (port.miles == 0) {
            return NOT;
        }
        trial.begin(ship);
        search.begin(trial);
        int asItIs = search.quickest(minute);
        if (asItIs == NONE) {
            return NONE;
        }
        int best = NONE;
        int saved = NONE;
        for (int mile = 0; mile < port.miles; mile++) {
            if (port.markOf(mile, DEPTH) < HIGHEST_MARK[DEPTH]) {
                trial.dug = mile;
                search.ruleMile(trial, mile);
                // Deeper water never ends a plan: there is a quickest one here, too.
                int saves = asItIs - search.quickest(minute);
                trial.dug = NO_MILE;
                search.ruleMile(trial, mile);
                if (saves > saved) {
                    saved = saves;
                    best = mile;
                }
            }
        }
        return what == 0 ? best : saved;
    }

    public int lost(int ship, int minute, int rule, int least) {
        if (!isStart(ship, minute) || !within(rule, 0, HIGHEST_SETTING[RULE]) || !within(least, 0, HIGHEST_SETTING[LEAST])) {
            return BAD;
        }
        if (port.miles == 0) {
            return NOT;
        }
        trial.begin(ship);
        trial.keepTo(rule, least);
        search.begin(trial);
        int byRule = search.quickest(minute);
        trial.keepTo(rule, 0);
        search.rule(trial);
        int free = search.quickest(minute);
        return byRule == NONE || free == NONE ? NONE : byRule - free;
    }

    public int touched(int ship, int minute, int mile) {
        int refusal = refusalAt(ship, minute, mile, 0);
        if (refusal != 0) {
            return refusal;
        }
        trial.begin(ship);
        int winds = 0;
        for (int wind = 0; wind <= HIGHEST_SETTING[WIND]; wind++) {
            trial.wind = wind;
            voyage.sail(trial, minute);
            if (voyage.touches == mile) {
                winds |= 1 << wind;
            }
        }
        return winds;
    }

    public int past(int ship, int mile, int most) {
        if (!port.hasShip(ship) || !port.hasMile(mile) || !within(most, 0, 999)) {
            return BAD;
        }
        int quay = port.markOf(mile, QUAY);
        if (quay <= 0) {
            return NOT;
        }
        for (int pace = MOST_PACE; pace >= 1; pace--) {
            if (pace * pace * port.hullOf(ship, BREADTH) / quay <= most) {
                return pace;
            }
        }
        return NONE;
    }

    public int image() {
        kept.take(port);
        imaged = true;
        return 1;
    }

    public int restore() {
        if (!imaged) {
            return NONE;
        }
        port.take(kept);
        return 1;
    }

    // ---- 4 sheets

    public int gauged(int sheet, int lane, int i, int n, int what) {
        if (!within(n, 1, 8) || !within(what, 0, 2)) {
            return BAD;
        }
        int refusal = sheets.refusal(sheet, lane, i, 2 * n);
        if (refusal != 0) {
            return refusal;
        }
        for (int pair = 0; pair < n; pair++) {
            if (!isMinute(sheets.get(sheet, i + 2 * pair))) {
                return NOT;
            }
        }
        return latesBy(sheet, i, n, what);
    }

    public int sheet(int sheet, int lane, int n) {
        return sheets.begin(sheet, lane, n);
    }

    public int drop(int sheet) {
        return sheets.forget(sheet);
    }

    public int item(int sheet, int lane, int i, int v) {
        int refusal = sheets.refusal(sheet, lane, i, 1);
        if (refusal != 0) {
            return refusal;
        }
        sheets.put(sheet, i, v);
        return 1;
    }

    public int copy(int from, int i, int to, int j, int n) {
        return sheets.move(from, i, to, j, n);
    }

    // ---- what the calls share

    private static boolean within(int v, int low, int high) {
        return v >= low && v <= high;
    }

    private static boolean isMark(int what, int v) {
        return within(v, LOWEST_MARK[what], HIGHEST_MARK[what]);
    }

    private static boolean isPace(int v) {
        return within(v, 1, MOST_PACE);
    }

    private static boolean isMinute(int v) {
        return within(v, 0, DAY_MINUTES - 1);
    }

    private boolean isStart(int ship, int minute) {
        return port.hasShip(ship) && isMinute(minute);
    }

    /** A number that no mile can have is refused ahead of a channel without miles, one that no mile has now behind it. */
    private int refusalAt(int ship, int minute, int mile, int lowest) {
        if (!isStart(ship, minute) || !within(mile, lowest, MOST_MILES - 1)) {
            return BAD;
        }
        if (port.miles == 0) {
            return NOT;
        }
        return mile < port.miles ? 0 : BAD;
    }

    private boolean isPlaced(int ship, int mile, int minute, int pace) {
        return port.hasShip(ship) && port.hasMile(mile) && within(minute, 0, LAST_MINUTE) && isPace(pace);
    }

    private boolean areTwo(int one, int other) {
        return port.hasShip(one) && port.hasShip(other) && one != other;
    }

    private boolean isHeld(int ship, int pace, int far) {
        int rudder = port.hullOf(ship, RUDDER);
        int holds = pace <= 3 ? rudder / 2 : rudder;
        return far >= 1 && pace * pace * port.hullOf(ship, BREADTH) / (far * far) <= holds;
    }

    private int latesBy(int sheet, int i, int n, int what) {
        int lates = 0;
        int first = NONE;
        int last = NONE;
        for (int late = 0; late <= HIGHEST_SETTING[LATE]; late++) {
            if (isLate(late, sheet, i, n)) {
                lates++;
                first = first == NONE ? late : first;
                last = late;
            }
        }
        return what == 0 ? lates : what == 1 ? first : last;
    }

    private boolean isLate(int late, int sheet, int i, int n) {
        for (int pair = 0; pair < n; pair++) {
            int at = i + 2 * pair;
            if (port.tideBy(late, sheets.get(sheet, at)) != sheets.get(sheet, at + 1)) {
                return false;
            }
        }
        return true;
    }

    private static int minutesBy(int pace) {
        return 60 / Math.max(1, pace);
    }

    private static boolean hasBit(long[] row, int minute) {
        return within(minute, 0, row.length * WORD - 1) && (row[minute / WORD] >>> minute % WORD & 1) != 0;
    }

    private static void putBit(long[] row, int minute) {
        if (within(minute, 0, row.length * WORD - 1)) {
            row[minute / WORD] |= 1L << minute % WORD;
        }
    }

    private static int bitsIn(long[] row) {
        int bits = 0;
        for (int word = 0; word < row.length; word++) {
            bits += Long.bitCount(row[word]);
        }
        return bits;
    }

    private static int firstFrom(long[] row, int minute) {
        if (minute < 0) {
            return NONE;
        }
        long left = -1L << minute % WORD;
        for (int word = minute / WORD; word < row.length; word++) {
            long bits = row[word] & left;
            if (bits != 0) {
                return word * WORD + Long.bitCount((bits & -bits) - 1);
            }
            left = -1L;
        }
        return NONE;
    }

    private static int lastOf(long[] row) {
        for (int minute = row.length * WORD - 1; minute >= 0; minute--) {
            if (hasBit(row, minute)) {
                return minute;
            }
        }
        return NONE;
    }

    /** The channel with its plan, the tide, the settings and the ships: all that an image keeps. */
    private static final class Port {
        int miles = 0;
        int ships = 0;
        final int[] heights = new int[HOURS];
        final int[] settings = {0, 0, 0, 0, 5};
        private final int[] marks = new int[MOST_MILES * MARKS];
        private final int[] hulls = new int[MOST_SHIPS * HULL];

        void take(Port other) {
            miles = other.miles;
            ships = other.ships;
            System.arraycopy(other.heights, 0, heights, 0, heights.length);
            System.arraycopy(other.settings, 0, settings, 0, settings.length);
            System.arraycopy(other.marks, 0, marks, 0, marks.length);
            System.arraycopy(other.hulls, 0, hulls, 0, hulls.length);
        }

        boolean hasMile(int mile) {
            return mile >= 0 && mile < miles;
        }

        boolean hasShip(int ship) {
            return ship >= 0 && ship < ships;
        }

        int markOf(int mile, int what) {
            return marks[mile * MARKS + what];
        }

        int mark(int mile, int what, int v) {
            int was = markOf(mile, what);
            marks[mile * MARKS + what] = v;
            return was;
        }

        int hullOf(int ship, int what) {
            return hulls[ship * HULL + what];
        }

        int addMile(int depth, int width) {
            if (miles >= MOST_MILES) {
                return FULL;
            }
            mark(miles, DEPTH, depth);
            mark(miles, WIDTH, width);
            mark(miles, SALT, 9);
            mark(miles, MUD, 0);
            mark(miles, QUAY, 0);
            mark(miles, PLAN, 8);
            miles++;
            return miles - 1;
        }

        void takeMiles(int[] found, int many) {
            miles = Math.min(many, TEXT_MILES);
            System.arraycopy(found, 0, marks, 0, miles * MARKS);
        }

        int addShip(int draught, int breadth, int rudder) {
            if (ships >= MOST_SHIPS) {
                return FULL;
            }
            hulls[ships * HULL + DRAUGHT] = draught;
            hulls[ships * HULL + BREADTH] = breadth;
            hulls[ships * HULL + RUDDER] = rudder;
            ships++;
            return ships - 1;
        }

        int widths() {
            int sum = 0;
            for (int mile = 0; mile < miles; mile++) {
                sum += markOf(mile, WIDTH);
            }
            return sum;
        }

        int tideAt(int minute) {
            return tideBy(settings[LATE], minute);
        }

        int tideBy(int late, int minute) {
            int at = Math.floorMod(minute - late, DAY_MINUTES);
            int from = heights[at / 60];
            int to = heights[(at / 60 + 1) % HOURS];
            return from + (to - from) * (at % 60) / 60;
        }

        int levelAt(int mile, int tide, int wind) {
            int at = mile * MARKS;
            return marks[at + DEPTH] + marks[at + MUD] * settings[SOFT] / 10 + tide - 2 * wind;
        }
    }

    /** A ship in the water as it is, or as it might be: by another wind, draught or rule, or with one mile deeper. */
    private static final class Trial {
        private final Port port;
        private int draught = 0;
        private int breadth = 0;
        private int rule = 0;
        private int leastUnder = 0;
        int wind = 0;
        int needed = 0;
        int dug = NO_MILE;

        Trial(Port port) {
            this.port = port;
        }

        void begin(int ship) {
            breadth = port.hullOf(ship, BREADTH);
            wind = port.settings[WIND];
            dug = NO_MILE;
            keepTo(port.settings[RULE], port.settings[LEAST]);
            load(port.hullOf(ship, DRAUGHT));
        }

        void load(int deep) {
            draught = deep;
            reckonNeed();
        }

        void keepTo(int byRule, int least) {
            rule = byRule;
            leastUnder = least;
            reckonNeed();
        }

        private void reckonNeed() {
            needed = rule == 0 ? leastUnder : draught * leastUnder / 100;
        }

        int level(int mile, int tide) {
            return port.levelAt(mile, tide, wind) + (mile == dug ? 1 : 0);
        }

        int sinking(int mile, int level, int pace) {
            int room = 3 * port.markOf(mile, WIDTH) * Math.max(1, level);
            return pace * pace * breadth * draught / Math.max(1, room);
        }

        /** What is under her while she makes no way. */
        int atRest(int mile, int level) {
            int fresh = draught * (9 - port.markOf(mile, SALT)) / 400;
            return level - draught - fresh - breadth * wind / 20;
        }

        int clearance(int mile, int tide, int pace) {
            int level = level(mile, tide);
            return atRest(mile, level) - sinking(mile, level, pace);
        }
    }

    /** One run by the plan. */
    private static final class Voyage {
        private final Port port;
        int touches = NONE;
        int minutes = 0;
        int lowest = 0;

        Voyage(Port port) {
            this.port = port;
        }

        void sail(Trial trial, int minute) {
            touches = NONE;
            minutes = 0;
            lowest = Integer.MAX_VALUE;
            for (int mile = 0; mile < port.miles && touches == NONE; mile++) {
                int pace = port.markOf(mile, PLAN);
                int under = trial.clearance(mile, port.tideAt(minute + minutes), pace);
                lowest = Math.min(lowest, under);
                if (under < 0) {
                    touches = mile;
                } else {
                    minutes += minutesBy(pace);
                }
            }
        }
    }

    /**
     * All plans by rule at once. The higher the tide, the more is under a ship, so for each mile and pace there is a
     * least tide that will do, and the minutes with so high a tide are one row of bits; a mile passed at a pace moves
     * a row of minutes by what the mile takes.
     */
    private static final class Search {
        private static final int NEVER = HIGHEST_TIDE + 1;
        private final Port port;
        private final int[] laid = new int[HOURS];
        private int laidLate = -1;
        private final long[][] flood = new long[NEVER][WORDS];
        private final int[] enough = new int[MOST_MILES * PACES.length];
        private final long[][] rows = new long[MOST_MILES + 1][WORDS];

        Search(Port port) {
            this.port = port;
        }

        void begin(Trial trial) {
            layTide();
            rule(trial);
        }

        /** flood[h] becomes the minutes at which the tide is h or higher; most calls find the tide as it was. */
        void layTide() {
            if (isLaid()) {
                return;
            }
            System.arraycopy(port.heights, 0, laid, 0, HOURS);
            laidLate = port.settings[LATE];
            for (int high = 0; high < NEVER; high++) {
                wipe(flood[high]);
            }
            for (int minute = 0; minute < SPAN; minute++) {
                int tide = port.tideAt(minute);
                if (within(tide, 0, HIGHEST_TIDE)) {
                    putBit(flood[tide], minute);
                }
            }
            for (int high = HIGHEST_TIDE - 1; high >= 0; high--) {
                for (int word = 0; word < WORDS; word++) {
                    flood[high][word] |= flood[high + 1][word];
                }
            }
        }

        private boolean isLaid() {
            boolean same = laidLate == port.settings[LATE];
            for (int hour = 0; hour < HOURS && same; hour++) {
                same = laid[hour] == port.heights[hour];
            }
            return same;
        }

        /** enough: by mile and pace the least tide that will do. */
        void rule(Trial trial) {
            for (int mile = 0; mile < port.miles; mile++) {
                ruleMile(trial, mile);
            }
        }

        void ruleMile(Trial trial, int mile) {
            // What is too low for a ship at rest, or for one pace, is so for each quicker one: the search goes on there.
            int lacks = trial.needed - trial.atRest(mile, trial.level(mile, 0));
            int tide = Math.max(0, Math.min(NEVER, lacks));
            for (int i = 0; i < PACES.length; i++) {
                while (tide < NEVER && trial.clearance(mile, tide, PACES[i]) < trial.needed) {
                    tide++;
                }
                enough[mile * PACES.length + i] = tide;
            }
        }

        int quickest(int minute) {
            int last = port.miles;
            wipe(rows[0]);
            putBit(rows[0], minute);
            for (int mile = 0; mile < last; mile++) {
                goOn(mile);
            }
            int comes = firstFrom(rows[last], minute);
            return comes == NONE ? NONE : comes - minute;
        }

        /** All plans that come at that minute are quickest ones: of these the first is followed up to a mile. */
        int firstPace(int minute, int minutes, int upTo) {
            wipe(rows[port.miles]);
            putBit(rows[port.miles], minute + minutes);
            goBack();
            int at = minute;
            int pace = NONE;
            for (int mile = 0; mile <= upTo && mile < port.miles; mile++) {
                pace = slowest(mile, at);
                at += minutesBy(pace);
            }
            return pace;
        }

        void findStarts(long[] starts) {
            for (int word = 0; word < WORDS; word++) {
                rows[port.miles][word] = -1L;
            }
            goBack();
            for (int word = 0; word < starts.length && word < WORDS; word++) {
                long ofTheDay = word < DAY_WORDS - 1 ? -1L : (1L << DAY_MINUTES % WORD) - 1;
                starts[word] = rows[0][word] & ofTheDay;
            }
        }

        private int slowest(int mile, int minute) {
            for (int i = 0; i < PACES.length; i++) {
                int tide = enough[mile * PACES.length + i];
                if (tide < NEVER && hasBit(flood[tide], minute) && hasBit(rows[mile + 1], minute + TAKES[i])) {
                    return PACES[i];
                }
            }
            return NONE;
        }

        /** From the minutes at which she may come to a mile those for the next one. */
        private void goOn(int mile) {
            wipe(rows[mile + 1]);
            for (int word = 0; word < WORDS; word++) {
                if (rows[mile][word] != 0) {
                    moveLater(mile, word);
                }
            }
        }

        private void moveLater(int mile, int word) {
            for (int i = 0; i < PACES.length; i++) {
                int tide = enough[mile * PACES.length + i];
                if (tide < NEVER) {
                    long bits = rows[mile][word] & flood[tide][word];
                    rows[mile + 1][word] |= bits << TAKES[i];
                    if (word + 1 < WORDS) {
                        rows[mile + 1][word + 1] |= bits >>> WORD - TAKES[i];
                    }
                }
            }
        }

        /** From the minutes at which she may have passed the last mile those for all miles ahead of it. */
        private void goBack() {
            for (int mile = port.miles - 1; mile >= 0; mile--) {
                for (int word = 0; word < WORDS; word++) {
                    long next = word + 1 < WORDS ? rows[mile + 1][word + 1] : 0;
                    rows[mile][word] = earlier(mile, word, rows[mile + 1][word], next);
                }
            }
        }

        private long earlier(int mile, int word, long here, long next) {
            long bits = 0;
            for (int i = 0; i < PACES.length && (here | next) != 0; i++) {
                int tide = enough[mile * PACES.length + i];
                if (tide < NEVER) {
                    bits |= flood[tide][word] & (here >>> TAKES[i] | next << WORD - TAKES[i]);
                }
            }
            return bits;
        }

        private static void wipe(long[] row) {
            for (int word = 0; word < row.length; word++) {
                row[word] = 0;
            }
        }
    }

    /** Ships one behind the other: all orders are tried, the first rows first. */
    private static final class Day {
        private final long[][] starts = new long[MOST_SHIPS][DAY_WORDS];
        private final int[] trying = new int[MOST_SHIPS];
        private final int[] best = new int[MOST_SHIPS];
        private int many = 0;
        private int leastSum = 0;
        private int gap = 0;

        long[] startsOf(int ship) {
            return starts[ship];
        }

        int arrange(int ships, int minutes) {
            many = 0;
            gap = minutes;
            leastSum = Integer.MAX_VALUE;
            tryNext(0, ships, 0, 0);
            return many == 0 ? NONE : leastSum;
        }

        int goes(int k) {
            return k >= 0 && k < many ? best[k] : NONE;
        }

        private void tryNext(int gone, int left, int from, int sum) {
            if (left == 0) {
                keepBetter(gone, sum);
                return;
            }
            if (gone >= MOST_SHIPS) {
                return;
            }
            for (int ship = 0; ship < MOST_SHIPS; ship++) {
                int start = (left >> ship & 1) != 0 ? firstFrom(starts[ship], from) : NONE;
                if (start != NONE) {
                    trying[gone] = ship;
                    tryNext(gone + 1, left & ~(1 << ship), start + gap, sum + start);
                }
            }
        }

        private void keepBetter(int gone, int sum) {
            if (sum < leastSum) {
                leastSum = sum;
                many = gone;
                System.arraycopy(trying, 0, best, 0, MOST_SHIPS);
            }
        }
    }

    /** The tape, and how it is read as a text; what was read lies in found until the text has proved right. */
    private static final class Tape {
        private static final int MOST = 100, FAULT = -20, TOO_GREAT = 1000;
        final int[] found = new int[TEXT_MILES * MARKS];
        private final byte[] signs = new byte[MOST];
        private int size = 0;
        private int at = 0;
        private int fault = 0;

        int append(long w, int n) {
            if (!within(n, 1, 8)) {
                return BAD;
            }
            for (int i = 0; i < n; i++) {
                if (!within((int) (w >>> 8 * i & 255), 32, 126)) {
                    return BAD;
                }
            }
            if (size + n > MOST) {
                return FULL;
            }
            for (int i = n - 1; i >= 0; i--) {
                signs[size] = (byte) (w >>> 8 * i & 255);
                size++;
            }
            return size;
        }

        int readChannel() {
            rewind();
            int miles = 0;
            do {
                readMile(miles * MARKS);
                miles++;
            } while (miles < TEXT_MILES && takes(';'));
            return finish(miles);
        }

        int readTide() {
            rewind();
            int greatest = 0;
            for (int hour = 0; hour < HOURS; hour++) {
                if (hour > 0) {
                    expect(',');
                }
                found[hour] = number(0, HIGHEST_TIDE);
                greatest = Math.max(greatest, found[hour]);
            }
            return finish(greatest);
        }

        private void readMile(int place) {
            found[place + DEPTH] = mark(DEPTH);
            expect('w');
            found[place + WIDTH] = mark(WIDTH);
            found[place + SALT] = takes('s') ? digit() : 9;
            found[place + MUD] = takes('m') ? mark(MUD) : 0;
            found[place + QUAY] = takes('q') ? mark(QUAY) : 0;
            found[place + PLAN] = 8;
        }

        private void rewind() {
            at = 0;
            fault = 0;
        }

        private int finish(int answer) {
            skipBlanks();
            if (at < size) {
                fail(at);
            }
            size = 0;
            return fault != 0 ? fault : answer;
        }

        /** Reading goes on behind a fault, but only the first one counts. */
        private void fail(int place) {
            if (fault == 0) {
                fault = FAULT - place;
            }
        }

        private void skipBlanks() {
            while (at < size && signs[at] == ' ') {
                at++;
            }
        }

        private boolean takes(char sign) {
            skipBlanks();
            if (at < size && signs[at] == sign) {
                at++;
                return true;
            }
            return false;
        }

        private void expect(char sign) {
            if (!takes(sign)) {
                fail(at);
            }
        }

        private static boolean isDigit(int sign) {
            return within(sign, '0', '9');
        }

        private int digit() {
            skipBlanks();
            if (at < size && isDigit(signs[at])) {
                at++;
                return signs[at - 1] - '0';
            }
            fail(at);
            return 0;
        }

        private int mark(int what) {
            return number(LOWEST_MARK[what], HIGHEST_MARK[what]);
        }

        private int number(int low, int high) {
            skipBlanks();
            int first = at;
            int v = 0;
            while (at < size && isDigit(signs[at])) {
                // A long number must not wrap round into one that may be.
                v = Math.min(TOO_GREAT, 10 * v + signs[at] - '0');
                at++;
            }
            if (at == first || !within(v, low, high)) {
                fail(first);
            }
            return v;
        }
    }

    /** Four sheets; a lane below 0 says that a sheet holds nothing. */
    private static final class Sheets {
        private static final int SHEETS = 4, MOST_ITEMS = 24, BYTES = 0, INTS = 2, NOTHING = -1;
        private final int[][] items = new int[SHEETS][MOST_ITEMS];
        private final int[] lanes = {NOTHING, NOTHING, NOTHING, NOTHING};
        private final int[] sizes = new int[SHEETS];

        int begin(int sheet, int lane, int n) {
            if (!isSheet(sheet) || !isLane(lane) || n > MOST_ITEMS) {
                return BAD;
            }
            if (n < 0) {
                return SIZE;
            }
            for (int i = 0; i < MOST_ITEMS; i++) {
                items[sheet][i] = 0;
            }
            lanes[sheet] = lane;
            sizes[sheet] = n;
            return n;
        }

        int forget(int sheet) {
            if (!isSheet(sheet)) {
                return BAD;
            }
            if (isNothing(sheet)) {
                return NULL;
            }
            lanes[sheet] = NOTHING;
            return sizes[sheet];
        }

        /** What stands against taking n items from i on as a row of a lane; 0: nothing does. */
        int refusal(int sheet, int lane, int i, int n) {
            if (!isSheet(sheet) || !isLane(lane)) {
                return BAD;
            }
            if (isNothing(sheet)) {
                return NULL;
            }
            if (lanes[sheet] != lane) {
                return CAST;
            }
            return hasItems(sheet, i, n) ? 0 : INDEX;
        }

        int get(int sheet, int i) {
            return items[sheet][i];
        }

        void put(int sheet, int i, int v) {
            int lane = lanes[sheet];
            items[sheet][i] = lane == BYTES ? (byte) v : lane == INTS ? v : (short) v;
        }

        int move(int from, int i, int to, int j, int n) {
            if (!isSheet(from) || !isSheet(to)) {
                return BAD;
            }
            if (isNothing(from) || isNothing(to)) {
                return NULL;
            }
            if (lanes[from] != lanes[to]) {
                return CAST;
            }
            if (!hasItems(from, i, n) || !hasItems(to, j, n)) {
                return INDEX;
            }
            System.arraycopy(items[from], i, items[to], j, n);
            return n;
        }

        private static boolean isSheet(int sheet) {
            return within(sheet, 0, SHEETS - 1);
        }

        private static boolean isLane(int lane) {
            return within(lane, BYTES, INTS);
        }

        private boolean isNothing(int sheet) {
            return lanes[sheet] == NOTHING;
        }

        private boolean hasItems(int sheet, int i, int n) {
            // The difference can't wrap round, as i and n together could.
            return i >= 0 && n >= 0 && n <= sizes[sheet] && i <= sizes[sheet] - n;
        }
    }
}
