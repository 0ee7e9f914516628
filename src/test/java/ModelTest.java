import java.util.Random;

/** Random runs of calls, answered by the program and by the plain model alike. */
public final class ModelTest {
    private static final Due DUE = new Due();
    private static final int RUNS = 1500, CALLS = 120;
    private static final int[] EDGES = {
        Integer.MIN_VALUE, Integer.MAX_VALUE, -100, -2, -1, 0, 1, 15, 16, 24, 25, 1439, 1440, 4000, 4001, 99999};

    private final Random random;
    private final DeepShip x = new DeepShip();
    private final PlainShip plain = new PlainShip();
    private final int deep;

    private ModelTest(int seed) {
        random = new Random(seed);
        deep = 30 + random.nextInt(150);
    }

    public static void main(String[] args) {
        for (int run = 1; run <= RUNS; run++) {
            new ModelTest(run).run(run);
        }
        DUE.finish();
    }

    private void run(int run) {
        if (random.nextInt(10) > 0) {
            for (int i = 0; i < 12; i++) build(run);
        }
        if (run % 10 == 0) narrow(run);
        for (int call = 0; call < CALLS; call++) {
            int kind = random.nextInt(20);
            if (kind < 4) build(run);
            else if (kind < 8) water(run);
            else if (kind < 13) plans(run);
            else if (kind < 17) meetings(run);
            else sheets(run);
        }
    }

    /** A long channel in which a ship comes on slowly, if at all, so that runs go far into the next day. */
    private void narrow(int run) {
        for (int mile = 0; mile < 16; mile++) {
            int depth = deep + 5 + random.nextInt(3), width = 10 + random.nextInt(8);
            same(run, "mile(" + depth + ", " + width + ")", x.mile(depth, width), plain.mile(depth, width));
        }
        same(run, "ship(" + deep + ", 10, 9)", x.ship(deep, 10, 9), plain.ship(deep, 10, 9));
    }

    /** Mostly from low to high, now and then an edge or just outside. */
    private int of(int low, int high) {
        int kind = random.nextInt(60);
        if (kind == 0) return EDGES[random.nextInt(EDGES.length)];
        if (kind == 1) return random.nextBoolean() ? low - 1 : high + 1;
        if (kind == 2) return random.nextBoolean() ? low : high;
        return low + random.nextInt(high - low + 1);
    }

    private int aMile() { return of(0, Math.max(0, plain.count(0) - 1)); }
    private int aShip() { return of(0, Math.max(0, plain.count(1) - 1)); }
    private int aMinute() { return of(0, 1439); }
    private int near(int minute) { return Math.max(0, Math.min(1439, minute)) + of(-60, 60); }
    private int aPace() { return of(1, 15); }

    private void same(int run, String call, int got, int want) {
        DUE.due("run " + run + ": " + call, got, want);
    }

    private void build(int run) {
        int a = aMile(), what = of(0, 4), b, c;
        switch (random.nextInt(11)) {
            case 0: case 1:
                a = of(Math.max(20, deep - 20), Math.min(250, deep + 30));
                b = of(10, 99);
                same(run, "mile(" + a + ", " + b + ")", x.mile(a, b), plain.mile(a, b));
                break;
            case 2:
                b = what == 0 ? of(deep - 10, deep + 40) : what == 1 ? of(10, 99) : of(0, new int[] {9, 9, 9, 20, 40}[Math.floorMod(what, 5)]);
                same(run, "make(" + a + ", " + what + ", " + b + ")", x.make(a, what, b), plain.make(a, what, b));
                break;
            case 3:
                b = of(0, 5);
                same(run, "told(" + a + ", " + b + ")", x.told(a, b), plain.told(a, b));
                break;
            case 4:
                a = of(0, 23);
                b = of(0, random.nextBoolean() ? 99 : 30);
                same(run, "height(" + a + ", " + b + ")", x.height(a, b), plain.height(a, b));
                break;
            case 5:
                b = of(0, new int[] {90, 9, 10, 1, 20}[Math.floorMod(what, 5)]);
                same(run, "set(" + what + ", " + b + ")", x.set(what, b), plain.set(what, b));
                break;
            case 6:
                a = of(Math.max(20, deep - 25), Math.min(200, deep + 15));
                b = of(1, 40);
                c = of(1, 99);
                same(run, "ship(" + a + ", " + b + ", " + c + ")", x.ship(a, b, c), plain.ship(a, b, c));
                break;
            case 7:
                b = aPace();
                same(run, "pace(" + a + ", " + b + ")", x.pace(a, b), plain.pace(a, b));
                break;
            case 8: texts(run); break;
            case 9:
                if (random.nextBoolean()) same(run, "image()", x.image(), plain.image());
                else if (random.nextInt(4) == 0) same(run, "restore()", x.restore(), plain.restore());
                break;
            default:
                b = of(0, 2);
                same(run, "count(" + b + ")", x.count(b), plain.count(b));
        }
    }

    private void texts(int run) {
        boolean channel = random.nextBoolean();
        String text = channel ? channelText() : tideText();
        if (random.nextInt(3) == 0) text = spoiled(text);
        for (int from = 0; from < text.length(); ) {
            String part = text.substring(from, Math.min(text.length(), from + 1 + random.nextInt(8)));
            from += part.length();
            long w = Due.word(part);
            same(run, "type('" + part + "')", x.type(w, part.length()), plain.type(w, part.length()));
        }
        if (random.nextInt(20) == 0) {
            long w = random.nextLong() & 0x7F7F7F7F7F7F7F7FL;
            int n = of(1, 8);
            same(run, "type(" + w + ", " + n + ")", x.type(w, n), plain.type(w, n));
        }
        if (channel) same(run, "channel() of '" + text + "'", x.channel(), plain.channel());
        else same(run, "tides() of '" + text + "'", x.tides(), plain.tides());
    }

    private String blank() { return random.nextInt(12) == 0 ? "  ".substring(random.nextInt(2)) : ""; }

    private String channelText() {
        StringBuilder text = new StringBuilder();
        int miles = 1 + random.nextInt(random.nextInt(10) == 0 ? 9 : 6);
        for (int i = 0; i < miles; i++) {
            if (i > 0) text.append(blank()).append(';');
            text.append(blank()).append(of(Math.max(20, deep - 10), deep + 40)).append(blank()).append('w').append(blank()).append(of(10, 99));
            if (random.nextInt(3) == 0) text.append(blank()).append('s').append(blank()).append(of(0, 9));
            if (random.nextInt(3) == 0) text.append(blank()).append('m').append(blank()).append(of(0, 20));
            if (random.nextInt(3) == 0) text.append(blank()).append('q').append(blank()).append(of(0, 40));
        }
        return text.append(blank()).toString();
    }

    private String tideText() {
        StringBuilder text = new StringBuilder();
        int hours = random.nextInt(10) == 0 ? of(22, 26) & 31 : 24;
        int most = random.nextBoolean() ? 40 : 99;
        for (int i = 0; i < hours; i++) {
            if (i > 0) text.append(blank()).append(',');
            text.append(blank()).append(random.nextInt(30) == 0 ? of(0, 99) : random.nextInt(most + 1));
        }
        return text.append(blank()).toString();
    }

    private String spoiled(String text) {
        int at = random.nextInt(text.length() + 1);
        String sign = String.valueOf(" 0129;,wsmqx".charAt(random.nextInt(12)));
        int kind = random.nextInt(3);
        if (kind == 0 || at == text.length()) return text.substring(0, at) + sign + text.substring(at);
        return text.substring(0, at) + (kind == 1 ? sign : "") + text.substring(at + 1);
    }

    private void water(int run) {
        int ship = aShip(), mile = aMile(), minute = of(0, 4000), pace = aPace(), at = aMinute(), what;
        switch (random.nextInt(6)) {
            case 0: same(run, "tide(" + minute + ")", x.tide(minute), plain.tide(minute)); break;
            case 1: same(run, "water(" + mile + ", " + minute + ")", x.water(mile, minute), plain.water(mile, minute)); break;
            case 2:
                same(run, "sinks(" + ship + ", " + mile + ", " + minute + ", " + pace + ")",
                    x.sinks(ship, mile, minute, pace), plain.sinks(ship, mile, minute, pace));
                break;
            case 3:
                same(run, "under(" + ship + ", " + mile + ", " + minute + ", " + pace + ")",
                    x.under(ship, mile, minute, pace), plain.under(ship, mile, minute, pace));
                break;
            case 4: same(run, "need(" + ship + ")", x.need(ship), plain.need(ship)); break;
            default:
                what = of(0, 3);
                same(run, "run(" + ship + ", " + at + ", " + what + ")", x.run(ship, at, what), plain.run(ship, at, what));
        }
    }

    private void plans(int run) {
        int ship = aShip(), minute = aMinute(), mile = random.nextInt(3) == 0 ? of(-1, 15) : aMile(), what;
        switch (random.nextInt(20)) {
            case 0: case 1:
                what = of(0, 2);
                same(run, "starts(" + ship + ", " + what + ")", x.starts(ship, what), plain.starts(ship, what));
                break;
            case 2: same(run, "deepest(" + ship + ", " + minute + ")", x.deepest(ship, minute), plain.deepest(ship, minute)); break;
            case 3: case 4: case 5:
                what = of(0, 1);
                same(run, "dredged(" + ship + ", " + minute + ", " + what + ")",
                    x.dredged(ship, minute, what), plain.dredged(ship, minute, what));
                break;
            case 6: case 7: case 8:
                what = of(0, 1);
                int least = of(0, random.nextBoolean() ? 99 : 15);
                same(run, "lost(" + ship + ", " + minute + ", " + what + ", " + least + ")",
                    x.lost(ship, minute, what, least), plain.lost(ship, minute, what, least));
                break;
            case 9: case 10: case 11:
                same(run, "touched(" + ship + ", " + minute + ", " + mile + ")",
                    x.touched(ship, minute, mile), plain.touched(ship, minute, mile));
                break;
            case 12:
                int all = (1 << plain.count(1)) - 1;
                int ships = random.nextInt(10) == 0 ? random.nextInt() : random.nextInt(64) & all;
                int gap = of(1, 240), k = of(-1, 5);
                same(run, "day(" + ships + ", " + gap + ", " + k + ")", x.day(ships, gap, k), plain.day(ships, gap, k));
                break;
            default:
                same(run, "least(" + ship + ", " + minute + ", " + mile + ")",
                    x.least(ship, minute, mile), plain.least(ship, minute, mile));
        }
    }

    private void meetings(int run) {
        int ship = aShip(), other = aShip(), mile = aMile(), p = aPace(), q = aPace(), a, b;
        switch (random.nextInt(6)) {
            case 0:
                a = random.nextInt(4) == 0 ? of(1, 99) : of(1, 15);
                same(run, "bank(" + ship + ", " + p + ", " + a + ")", x.bank(ship, p, a), plain.bank(ship, p, a));
                break;
            case 1: same(run, "nearest(" + ship + ", " + p + ")", x.nearest(ship, p), plain.nearest(ship, p)); break;
            case 2:
                a = of(0, 9);
                b = of(0, 5);
                same(run, "steered(" + a + ", " + b + ")", x.steered(a, b), plain.steered(a, b));
                break;
            case 3:
                same(run, "may(" + ship + ", " + other + ", " + mile + ", " + p + ", " + q + ")",
                    x.may(ship, other, mile, p, q), plain.may(ship, other, mile, p, q));
                break;
            case 4:
                a = aMinute();
                b = random.nextInt(3) == 0 ? aMinute() : near(a);
                same(run, "meet(" + ship + ", " + a + ", " + p + ", " + other + ", " + b + ", " + q + ")",
                    x.meet(ship, a, p, other, b, q), plain.meet(ship, a, p, other, b, q));
                break;
            default:
                a = of(0, random.nextBoolean() ? 999 : 40);
                same(run, "past(" + ship + ", " + mile + ", " + a + ")", x.past(ship, mile, a), plain.past(ship, mile, a));
        }
    }

    private void sheets(int run) {
        int sheet = of(0, 3), lane = of(0, 2), i = of(0, 8), n = of(0, 12), v = aMinute(), to = of(0, 3), j = of(0, 8);
        switch (random.nextInt(8)) {
            case 0: same(run, "sheet(" + sheet + ", " + lane + ", " + n + ")", x.sheet(sheet, lane, n), plain.sheet(sheet, lane, n)); break;
            case 1:
                if (random.nextInt(5) == 0) same(run, "drop(" + sheet + ")", x.drop(sheet), plain.drop(sheet));
                break;
            case 2:
                same(run, "copy(" + sheet + ", " + i + ", " + to + ", " + j + ", " + n + ")",
                    x.copy(sheet, i, to, j, n), plain.copy(sheet, i, to, j, n));
                break;
            case 3: case 4:
                v = random.nextInt(4) == 0 ? random.nextInt() : v;
                same(run, "item(" + sheet + ", " + lane + ", " + i + ", " + v + ")", x.item(sheet, lane, i, v), plain.item(sheet, lane, i, v));
                break;
            case 5: gaugeWell(run, lane); break;
            default:
                n = of(1, 4);
                int what = of(0, 2);
                same(run, "gauged(" + sheet + ", " + lane + ", " + i + ", " + n + ", " + what + ")",
                    x.gauged(sheet, lane, i, n, what), plain.gauged(sheet, lane, i, n, what));
        }
    }

    /** Heights as the tide has them now, so that there are lates to be found. */
    private void gaugeWell(int run, int lane) {
        int pairs = 1 + random.nextInt(8);
        same(run, "sheet", x.sheet(0, lane, 2 * pairs), plain.sheet(0, lane, 2 * pairs));
        for (int pair = 0; pair < pairs; pair++) {
            int minute = random.nextInt(lane == 0 ? 128 : 1440);
            int v = x.tide(minute) + (random.nextInt(15) == 0 ? 1 : 0);
            same(run, "item", x.item(0, lane, 2 * pair, minute), plain.item(0, lane, 2 * pair, minute));
            same(run, "item", x.item(0, lane, 2 * pair + 1, v), plain.item(0, lane, 2 * pair + 1, v));
        }
        for (int what = 0; what < 3; what++) {
            same(run, "gauged(0, " + lane + ", 0, " + pairs + ", " + what + ")",
                x.gauged(0, lane, 0, pairs, what), plain.gauged(0, lane, 0, pairs, what));
        }
    }
}
