import java.util.ArrayList;
import java.util.Arrays;
import java.util.List;

/**
 * The document once more, in the slowest and plainest way, without any thought of how the program does it:
 * every plan's miles are tried by recursion, every draught, every order, every minute.
 */
final class PlainShip {
    private static final int BAD = -1, NOT = -2, FULL = -3, NONE = -4, NULL = -11, CAST = -12, INDEX = -13, SIZE = -14;

    private record State(List<int[]> miles, int[] heights, int[] settings, List<int[]> ships) {
        State deep() {
            List<int[]> m = new ArrayList<>();
            miles.forEach(mile -> m.add(mile.clone()));
            return new State(m, heights.clone(), settings.clone(), new ArrayList<>(ships));
        }
    }

    private State now = new State(new ArrayList<>(), new int[24], new int[] {0, 0, 0, 0, 5}, new ArrayList<>());
    private State kept = null;
    private String tape = "";
    private final Object[] sheets = new Object[4];

    // ---- 1

    int mile(int depth, int width) {
        if (depth < 20 || depth > 250 || width < 10 || width > 99) return BAD;
        if (now.miles.size() == 16) return FULL;
        now.miles.add(new int[] {depth, width, 9, 0, 0, 8});
        return now.miles.size() - 1;
    }

    int make(int mile, int what, int v) {
        if (noMile(mile) || what < 0 || what > 4) return BAD;
        int low = what == 0 ? 20 : what == 1 ? 10 : 0;
        int high = what == 0 ? 250 : what == 1 ? 99 : what == 2 ? 9 : what == 3 ? 20 : 40;
        if (v < low || v > high) return BAD;
        int was = now.miles.get(mile)[what];
        now.miles.get(mile)[what] = v;
        return was;
    }

    int told(int mile, int what) {
        return noMile(mile) || what < 0 || what > 5 ? BAD : now.miles.get(mile)[what];
    }

    int height(int hour, int v) {
        if (hour < 0 || hour > 23 || v < 0 || v > 99) return BAD;
        int was = now.heights[hour];
        now.heights[hour] = v;
        return was;
    }

    int set(int what, int v) {
        if (what < 0 || what > 4 || v < 0) return BAD;
        if (what == 0 && v > 90 || what == 1 && v > 9 || what == 2 && v > 10 || what == 3 && v > 1 || v > 99) return BAD;
        int was = now.settings[what];
        now.settings[what] = v;
        return was;
    }

    int ship(int draught, int breadth, int rudder) {
        if (draught < 20 || draught > 200 || breadth < 1 || breadth > 40 || rudder < 1 || rudder > 99) return BAD;
        if (now.ships.size() == 6) return FULL;
        now.ships.add(new int[] {draught, breadth, rudder});
        return now.ships.size() - 1;
    }

    int pace(int mile, int v) {
        if (noMile(mile) || noPace(v)) return BAD;
        int was = now.miles.get(mile)[5];
        now.miles.get(mile)[5] = v;
        return was;
    }

    int type(long w, int n) {
        if (n < 1 || n > 8) return BAD;
        StringBuilder more = new StringBuilder();
        for (int i = 0; i < n; i++) {
            int sign = (int) (w & 0xFF);
            if (sign < 32 || sign > 126) return BAD;
            more.insert(0, (char) sign);
            w >>= 8;
        }
        if (tape.length() + n > 100) return FULL;
        tape += more;
        return tape.length();
    }

    /** A text is cut into numbers and signs with their places; then one token after the other is looked at. */
    private record Token(String text, int place) {
        boolean isNumber(int low, int high) {
            return text.matches("[0-9]+") && new java.math.BigInteger(text).compareTo(java.math.BigInteger.valueOf(low)) >= 0
                && new java.math.BigInteger(text).compareTo(java.math.BigInteger.valueOf(high)) <= 0;
        }

        int value() {
            return Integer.parseInt(text);
        }
    }

    private List<Token> tokens(boolean salted) {
        List<Token> all = new ArrayList<>();
        int at = 0;
        while (at < tape.length()) {
            int end = at + 1;
            if (Character.isDigit(tape.charAt(at))) {
                boolean single = salted && !all.isEmpty() && all.get(all.size() - 1).text.equals("s");
                while (!single && end < tape.length() && Character.isDigit(tape.charAt(end))) end++;
            }
            if (tape.charAt(at) != ' ') all.add(new Token(tape.substring(at, end), at));
            at = end;
        }
        all.add(new Token("END", tape.length()));
        tape = "";
        return all;
    }

    int channel() {
        List<int[]> miles = new ArrayList<>();
        int[] mile = null;
        String state = "depth";
        for (Token token : tokens(true)) {
            String next = null;
            switch (state) {
                case "depth":
                    if (token.isNumber(20, 250)) {
                        mile = new int[] {token.value(), 0, 9, 0, 0, 8};
                        miles.add(mile);
                        next = "w";
                    }
                    break;
                case "w": next = token.text.equals("w") ? "width" : null; break;
                case "width": if (token.isNumber(10, 99)) { mile[1] = token.value(); next = "smq"; } break;
                case "salt": if (token.isNumber(0, 9)) { mile[2] = token.value(); next = "mq"; } break;
                case "mud": if (token.isNumber(0, 20)) { mile[3] = token.value(); next = "q"; } break;
                case "quay": if (token.isNumber(0, 40)) { mile[4] = token.value(); next = ""; } break;
                default:
                    if (token.text.equals("END")) next = "over";
                    if (token.text.equals(";") && miles.size() < 8) next = "depth";
                    if (token.text.equals("s") && state.contains("s")) next = "salt";
                    if (token.text.equals("m") && state.contains("m")) next = "mud";
                    if (token.text.equals("q") && state.contains("q")) next = "quay";
            }
            if (next == null) return -20 - token.place;
            state = next;
        }
        now.miles.clear();
        now.miles.addAll(miles);
        return miles.size();
    }

    int tides() {
        int[] heights = new int[24];
        int i = 0;
        for (Token token : tokens(false)) {
            boolean fine = i == 47 ? token.text.equals("END") : i % 2 == 0 ? token.isNumber(0, 99) : token.text.equals(",");
            if (!fine) return -20 - token.place;
            if (i < 47 && i % 2 == 0) heights[i / 2] = token.value();
            i++;
        }
        System.arraycopy(heights, 0, now.heights, 0, 24);
        return Arrays.stream(heights).max().getAsInt();
    }

    int count(int what) {
        return what == 0 ? now.miles.size() : what == 1 ? now.ships.size()
            : what == 2 ? now.miles.stream().mapToInt(mile -> mile[1]).sum() : BAD;
    }

    // ---- 2

    private boolean noMile(int mile) { return mile < 0 || mile >= now.miles.size(); }
    private boolean noShip(int ship) { return ship < 0 || ship >= now.ships.size(); }
    private static boolean noPace(int pace) { return pace < 1 || pace > 15; }
    private static boolean noMinute(int minute) { return minute < 0 || minute > 1439; }

    private int tideOf(int late, int minute) {
        int at = minute - late;
        while (at < 0) at += 1440;
        while (at >= 1440) at -= 1440;
        int h = at / 60, m = at - 60 * h;
        int from = now.heights[h], to = now.heights[h == 23 ? 0 : h + 1];
        return to >= from ? from + (to - from) * m / 60 : from - (from - to) * m / 60;
    }

    private int tideOf(int minute) { return tideOf(now.settings[0], minute); }

    int tide(int minute) { return minute < 0 || minute > 4000 ? BAD : tideOf(minute); }

    private int waterOf(int mile, int minute) {
        int[] m = now.miles.get(mile);
        return m[0] + m[3] * now.settings[2] / 10 + tideOf(minute) - 2 * now.settings[1];
    }

    int water(int mile, int minute) {
        return noMile(mile) || minute < 0 || minute > 4000 ? -100001 : waterOf(mile, minute);
    }

    private int sinksOf(int[] ship, int mile, int minute, int pace) {
        return pace * pace * ship[1] * ship[0] / (3 * now.miles.get(mile)[1] * Math.max(1, waterOf(mile, minute)));
    }

    private int underOf(int[] ship, int mile, int minute, int pace) {
        return waterOf(mile, minute) - ship[0] - ship[0] * (9 - now.miles.get(mile)[2]) / 400
            - sinksOf(ship, mile, minute, pace) - ship[1] * now.settings[1] / 20;
    }

    private int needOf(int[] ship) {
        return now.settings[3] == 0 ? now.settings[4] : ship[0] * now.settings[4] / 100;
    }

    int sinks(int ship, int mile, int minute, int pace) {
        if (noShip(ship) || noMile(mile) || minute < 0 || minute > 4000 || noPace(pace)) return BAD;
        return sinksOf(now.ships.get(ship), mile, minute, pace);
    }

    int under(int ship, int mile, int minute, int pace) {
        if (noShip(ship) || noMile(mile) || minute < 0 || minute > 4000 || noPace(pace)) return -100001;
        return underOf(now.ships.get(ship), mile, minute, pace);
    }

    int need(int ship) { return noShip(ship) ? BAD : needOf(now.ships.get(ship)); }

    int run(int ship, int minute, int what) {
        if (noShip(ship) || noMinute(minute) || what < 0 || what > 3) return BAD;
        if (now.miles.isEmpty()) return NOT;
        int[] s = now.ships.get(ship);
        int touch = NONE, time = 0, lowest = 1 << 30;
        boolean byRule = true;
        for (int mile = 0; mile < now.miles.size(); mile++) {
            int pace = now.miles.get(mile)[5];
            int under = underOf(s, mile, minute + time, pace);
            lowest = Math.min(lowest, under);
            byRule &= under >= needOf(s);
            if (under < 0) {
                touch = mile;
                break;
            }
            time += 60 / pace;
        }
        return what == 0 ? touch : what == 1 ? time : what == 2 ? lowest + 100000 : byRule ? 1 : 0;
    }

    /** Time and paces of the first quickest plan from a mile on, by [mile][minute]; a row of no paces: none. */
    private int[][][] plans;

    private static final int[] NO_PLAN = {};

    private int[] planFrom(int[] ship, int mile, int minute) {
        if (mile == now.miles.size()) return new int[17];
        if (plans[mile][minute] != null) return plans[mile][minute];
        int[] best = NO_PLAN;
        for (int pace = 1; pace <= 15; pace++) {
            if (underOf(ship, mile, minute, pace) < needOf(ship)) continue;
            int[] rest = planFrom(ship, mile + 1, minute + 60 / pace);
            if (rest == NO_PLAN) continue;
            if (best == NO_PLAN || rest[16] + 60 / pace < best[16]) {
                best = rest.clone();
                best[16] += 60 / pace;
                best[mile] = pace;
            }
        }
        plans[mile][minute] = best;
        return best;
    }

    private int[] plan(int[] ship, int minute) {
        plans = new int[16][2500][];
        return planFrom(ship, 0, minute);
    }

    int least(int ship, int minute, int mile) {
        if (noShip(ship) || noMinute(minute) || mile < -1 || mile > 15) return BAD;
        if (now.miles.isEmpty()) return NOT;
        if (mile >= now.miles.size()) return BAD;
        int[] plan = plan(now.ships.get(ship), minute);
        return plan == NO_PLAN ? NONE : mile < 0 ? plan[16] : plan[mile];
    }

    private List<Integer> startsOf(int ship) {
        List<Integer> all = new ArrayList<>();
        plans = new int[16][2500][];
        for (int minute = 0; minute < 1440; minute++) {
            if (planFrom(now.ships.get(ship), 0, minute) != NO_PLAN) all.add(minute);
        }
        return all;
    }

    int starts(int ship, int what) {
        if (noShip(ship) || what < 0 || what > 2) return BAD;
        if (now.miles.isEmpty()) return NOT;
        List<Integer> all = startsOf(ship);
        if (what == 0) return all.size();
        return all.isEmpty() ? NONE : all.get(what == 1 ? 0 : all.size() - 1);
    }

    int deepest(int ship, int minute) {
        if (noShip(ship) || noMinute(minute)) return BAD;
        if (now.miles.isEmpty()) return NOT;
        for (int draught = 200; draught >= 20; draught--) {
            if (plan(new int[] {draught, now.ships.get(ship)[1], 1}, minute) != NO_PLAN) return draught;
        }
        return NONE;
    }

    // ---- 3

    int bank(int ship, int pace, int far) {
        if (noShip(ship) || noPace(pace) || far < 1 || far > 99) return BAD;
        int[] s = now.ships.get(ship);
        int holds = pace < 4 ? s[2] / 2 : s[2];
        return pace * pace * s[1] / (far * far) <= holds ? 1 : 0;
    }

    int nearest(int ship, int pace) {
        if (noShip(ship) || noPace(pace)) return BAD;
        int far = 1;
        while (far < 100 && bank(ship, pace, far) != 1) far++;
        return far == 100 ? NONE : far;
    }

    int steered(int gain, int lag) {
        if (gain < 0 || gain > 9 || lag < 0 || lag > 5) return BAD;
        List<Integer> where = new ArrayList<>();
        for (int i = 0; i < 7; i++) where.add(8);
        int v = 0;
        for (int step = 1; step <= 60; step++) {
            int last = where.get(where.size() - 1);
            v = v - gain * where.get(where.size() - 1 - lag) / 4;
            if (last > 0) v++;
            if (last < 0) v--;
            where.add(last + v);
            if (last + v >= 40 || last + v <= -40) return step;
        }
        return 0;
    }

    int may(int one, int other, int mile, int p, int q) {
        if (noShip(one) || noShip(other) || one == other || noMile(mile) || noPace(p) || noPace(q)) return BAD;
        int together = now.ships.get(one)[1] + now.ships.get(other)[1] + (p + q) * (p + q) / 20;
        return now.miles.get(mile)[1] >= together ? 1 : 0;
    }

    int meet(int one, int minute, int p, int other, int minute2, int q) {
        if (noShip(one) || noShip(other) || one == other) return BAD;
        if (noMinute(minute) || noMinute(minute2) || noPace(p) || noPace(q)) return BAD;
        int n = now.miles.size();
        if (n == 0) return NOT;
        for (int at = 0; at < 4000; at++) {
            int there = Math.floorDiv(at - minute, 60 / p);
            int back = n - 1 - Math.floorDiv(at - minute2, 60 / q);
            if (there >= 0 && there < n && there == back) return there;
        }
        return NONE;
    }

    private int[] bestDay;
    private int bestSum;

    private void orders(List<Integer> gone, List<Integer> left, List<List<Integer>> starts, int gap) {
        if (left.isEmpty()) {
            int sum = 0, from = 0;
            for (int ship : gone) {
                int start = from;
                while (start < 1440 && !starts.get(ship).contains(start)) start++;
                if (start >= 1440) return;
                sum += start;
                from = start + gap;
            }
            if (bestDay == null || sum < bestSum) {
                bestSum = sum;
                bestDay = gone.stream().mapToInt(ship -> ship).toArray();
            }
        }
        for (Integer ship : left) {
            List<Integer> more = new ArrayList<>(gone);
            more.add(ship);
            List<Integer> rest = new ArrayList<>(left);
            rest.remove(ship);
            orders(more, rest, starts, gap);
        }
    }

    int day(int ships, int gap, int k) {
        if (gap < 1 || gap > 240 || k < -1 || k > 5) return BAD;
        List<Integer> set = new ArrayList<>();
        for (int ship = 0; ship < 32; ship++) {
            if ((ships >>> ship & 1) == 1) {
                if (noShip(ship)) return BAD;
                set.add(ship);
            }
        }
        if (set.isEmpty()) return BAD;
        if (now.miles.isEmpty()) return NOT;
        List<List<Integer>> starts = new ArrayList<>();
        for (int ship = 0; ship < 6; ship++) starts.add(set.contains(ship) ? startsOf(ship) : List.of());
        bestDay = null;
        orders(List.of(), set, starts, gap);
        return bestDay == null ? NONE : k < 0 ? bestSum : k < bestDay.length ? bestDay[k] : NONE;
    }

    int dredged(int ship, int minute, int what) {
        if (noShip(ship) || noMinute(minute) || what < 0 || what > 1) return BAD;
        if (now.miles.isEmpty()) return NOT;
        int[] before = plan(now.ships.get(ship), minute);
        if (before == NO_PLAN) return NONE;
        int best = NONE, most = -1;
        for (int mile = 0; mile < now.miles.size(); mile++) {
            if (now.miles.get(mile)[0] == 250) continue;
            now.miles.get(mile)[0]++;
            int saved = before[16] - plan(now.ships.get(ship), minute)[16];
            now.miles.get(mile)[0]--;
            if (saved > most) {
                most = saved;
                best = mile;
            }
        }
        return best == NONE ? NONE : what == 0 ? best : most;
    }

    int lost(int ship, int minute, int rule, int least) {
        if (noShip(ship) || noMinute(minute) || rule < 0 || rule > 1 || least < 0 || least > 99) return BAD;
        if (now.miles.isEmpty()) return NOT;
        State was = now;
        now = was.deep();
        now.settings[3] = rule;
        now.settings[4] = least;
        int[] by = plan(now.ships.get(ship), minute);
        now.settings[4] = 0;
        int[] free = plan(now.ships.get(ship), minute);
        now = was;
        return by == NO_PLAN || free == NO_PLAN ? NONE : by[16] - free[16];
    }

    int touched(int ship, int minute, int mile) {
        if (noShip(ship) || noMinute(minute) || mile < 0 || mile > 15) return BAD;
        if (now.miles.isEmpty()) return NOT;
        if (noMile(mile)) return BAD;
        int was = now.settings[1], set = 0;
        for (int wind = 0; wind < 10; wind++) {
            now.settings[1] = wind;
            if (run(ship, minute, 0) == mile) set += 1 << wind;
        }
        now.settings[1] = was;
        return set;
    }

    int past(int ship, int mile, int most) {
        if (noShip(ship) || noMile(mile) || most < 0 || most > 999) return BAD;
        int quay = now.miles.get(mile)[4];
        if (quay == 0) return NOT;
        int best = NONE;
        for (int pace = 1; pace <= 15; pace++) {
            if (pace * pace * now.ships.get(ship)[1] / quay <= most) best = pace;
        }
        return best;
    }

    int image() {
        kept = now.deep();
        return 1;
    }

    int restore() {
        if (kept == null) return NONE;
        now = kept.deep();
        return 1;
    }

    // ---- 4: rows as Java's own arrays, so that the machine itself says what is cast, what is out

    private static int size(Object row) { return java.lang.reflect.Array.getLength(row); }

    private static boolean isOf(Object row, int lane) {
        return lane == 0 ? row instanceof byte[] : lane == 1 ? row instanceof short[] : row instanceof int[];
    }

    int gauged(int sheet, int lane, int i, int n, int what) {
        if (sheet < 0 || sheet > 3 || lane < 0 || lane > 2 || n < 1 || n > 8 || what < 0 || what > 2) return BAD;
        Object row = sheets[sheet];
        if (row == null) return NULL;
        if (!isOf(row, lane)) return CAST;
        if (i < 0 || (long) i + 2 * n > size(row)) return INDEX;
        List<Integer> lates = new ArrayList<>();
        for (int late = 0; late <= 90; late++) {
            boolean fits = true;
            for (int at = i; at < i + 2 * n; at += 2) {
                int minute = java.lang.reflect.Array.getInt(row, at);
                if (noMinute(minute)) return NOT;
                fits &= tideOf(late, minute) == java.lang.reflect.Array.getInt(row, at + 1);
            }
            if (fits) lates.add(late);
        }
        if (what == 0) return lates.size();
        return lates.isEmpty() ? NONE : lates.get(what == 1 ? 0 : lates.size() - 1);
    }

    int sheet(int sheet, int lane, int n) {
        if (sheet < 0 || sheet > 3 || lane < 0 || lane > 2 || n > 24) return BAD;
        try {
            sheets[sheet] = lane == 0 ? new byte[n] : lane == 1 ? new short[n] : (Object) new int[n];
        } catch (NegativeArraySizeException e) {
            return SIZE;
        }
        return n;
    }

    int drop(int sheet) {
        if (sheet < 0 || sheet > 3) return BAD;
        if (sheets[sheet] == null) return NULL;
        int had = size(sheets[sheet]);
        sheets[sheet] = null;
        return had;
    }

    int item(int sheet, int lane, int i, int v) {
        if (sheet < 0 || sheet > 3 || lane < 0 || lane > 2) return BAD;
        try {
            Object row = sheets[sheet];
            if (row == null) return NULL;
            if (lane == 0) ((byte[]) row)[i] = (byte) v;
            if (lane == 1) ((short[]) row)[i] = (short) v;
            if (lane == 2) ((int[]) row)[i] = v;
            return 1;
        } catch (ClassCastException e) {
            return CAST;
        } catch (ArrayIndexOutOfBoundsException e) {
            return INDEX;
        }
    }

    int copy(int from, int i, int to, int j, int n) {
        if (from < 0 || from > 3 || to < 0 || to > 3) return BAD;
        try {
            System.arraycopy(sheets[from], i, sheets[to], j, n);
            return n;
        } catch (NullPointerException e) {
            return NULL;
        } catch (ArrayStoreException e) {
            return CAST;
        } catch (IndexOutOfBoundsException e) {
            return INDEX;
        }
    }
}
