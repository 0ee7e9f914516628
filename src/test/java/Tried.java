import java.lang.reflect.InvocationTargetException;
import java.lang.reflect.Method;
import java.lang.reflect.Modifier;
import java.util.ArrayList;
import java.util.Arrays;
import java.util.HashMap;
import java.util.List;
import java.util.Map;

/** An object with the calls made on it so far, so that they can be made on a twin once more. */
final class Tried {
    private static final int BAD = -1, BAD_LOWER = -100001, MOST_CALLS = 512;
    private static final Map<String, Method> FACE = new HashMap<>();

    static {
        for (Method method : DeepShip.class.getDeclaredMethods()) {
            if (Modifier.isPublic(method.getModifiers())) FACE.put(method.getName(), method);
        }
    }

    private record Step(String name, long[] with) {
        String text() {
            String list = Arrays.toString(with);
            return name + "(" + list.substring(1, list.length() - 1) + ")";
        }
    }

    private final Sentences sentences;
    private final DeepShip ship = new DeepShip();
    private final List<Step> steps = new ArrayList<>();

    Tried(Sentences sentences) {
        this.sentences = sentences;
    }

    /** A call that leads to where the tests begin. */
    Tried made(String name, long... with) {
        remember(name, with);
        return this;
    }

    /** A call whose answer is due; what it changes stays. */
    Tried is(long want, String name, long... with) {
        int got = remember(name, with);
        sentences.due(new Step(name, with).text(), got, want);
        return this;
    }

    /** A call whose answer is due and which changes nothing: a twin on which it is not made is like one on which it is. */
    Tried keeps(long want, String name, long... with) {
        Step step = new Step(name, with);
        for (int part = 0; part < Look.PARTS; part++) {
            DeepShip one = twin();
            int got = ask(one, step);
            if (part == 0) {
                sentences.due(step.text(), got, want);
                sentences.due(step.text() + " once more", ask(one, step), want);
            }
            Asked asked = call -> ask(one, call);
            DeepShip other = twin();
            Asked without = call -> ask(other, call);
            boolean like = Look.at(part, asked).equals(Look.at(part, without));
            sentences.due(step.text() + " changed something (1) in part " + part, like ? 0 : 1, 0);
        }
        return this;
    }

    /** One number of a call, from low to high: the last ones that are taken, the first that are not and those far off. */
    Tried bounds(int low, int high, int place, String name, long... with) {
        int bad = name.equals("water") || name.equals("under") ? BAD_LOWER : BAD;
        for (long v : new long[] {low - 1L, high + 1L, Integer.MIN_VALUE, Integer.MAX_VALUE}) {
            keeps(bad, name, put(with, place, v));
        }
        for (long v : new long[] {low, high}) {
            Step step = new Step(name, put(with, place, v));
            sentences.due(step.text() + " is refused (1)", ask(twin(), step) == bad ? 1 : 0, 0);
        }
        return this;
    }

    Tried types(String text) {
        for (int from = 0; from < text.length(); from += 8) {
            String part = text.substring(from, Math.min(text.length(), from + 8));
            remember("type", new long[] {Due.word(part), part.length()});
        }
        return this;
    }

    /** All that was told so far, told to another object, too. */
    Tried again() {
        Tried other = new Tried(sentences);
        steps.forEach(step -> other.remember(step.name, step.with));
        return other;
    }

    int ask(String name, long... with) {
        return ask(twin(), new Step(name, with));
    }

    private static long[] put(long[] with, int place, long v) {
        long[] changed = with.clone();
        changed[place] = v;
        return changed;
    }

    private int remember(String name, long[] with) {
        steps.add(new Step(name, with));
        if (steps.size() > MOST_CALLS) throw new IllegalStateException("an object is used for 512 calls at most");
        return ask(ship, steps.get(steps.size() - 1));
    }

    private DeepShip twin() {
        DeepShip twin = new DeepShip();
        steps.forEach(step -> ask(twin, step));
        return twin;
    }

    private static int ask(DeepShip x, Step step) {
        Method method = FACE.get(step.name);
        Object[] with = new Object[step.with.length];
        for (int i = 0; i < with.length; i++) {
            with[i] = method.getParameterTypes()[i] == long.class ? (Object) step.with[i] : (Object) Math.toIntExact(step.with[i]);
        }
        try {
            return (Integer) method.invoke(x, with);
        } catch (InvocationTargetException e) {
            throw new IllegalStateException(step.text() + " threw", e.getCause());
        } catch (IllegalAccessException e) {
            throw new IllegalStateException(e);
        }
    }

    private interface Asked {
        int of(Step call);
    }

    /** All that can be seen of an object, in parts, since looking at sheets and the tape changes them. */
    private static final class Look {
        static final int PARTS = 3;
        private final Asked asked;
        private final List<Integer> seen = new ArrayList<>();

        private Look(Asked asked) {
            this.asked = asked;
        }

        static List<Integer> at(int part, Asked asked) {
            Look look = new Look(asked);
            if (part == 0) look.port();
            if (part == 1) look.sheets();
            if (part == 2) look.tapeAndImage();
            return look.seen;
        }

        private int see(String name, long... with) {
            int answer = asked.of(new Step(name, with));
            seen.add(answer);
            return answer;
        }

        private void port() {
            int miles = see("count", 0);
            see("count", 1);
            see("count", 2);
            for (int mile = 0; mile <= miles; mile++) {
                for (int what = 0; what < 6; what++) see("told", mile, what);
            }
            for (int hour = 0; hour < 24; hour++) see("tide", 60 * hour);
            for (int ship = 0; ship < 6; ship++) {
                see("need", ship);
                see("under", ship, 0, 0, 1);
                see("nearest", ship, 4);
                see("nearest", ship, 15);
            }
            for (int what = 0; what < 5; what++) see("set", what, see("set", what, 0));
        }

        /** Item by item as a height: at minute 60 the tide is 60 less how late it is. Sheet 3 alone is only counted. */
        private void sheets() {
            see("drop", 3);
            for (int hour = 0; hour < 24; hour++) see("height", hour, hour == 1 ? 60 : 0);
            for (int sheet = 0; sheet < 3; sheet++) {
                for (int lane = 0; lane < 3; lane++) {
                    if (see("item", sheet, lane, -1, 0) == DeepShip.INDEX) items(sheet, lane);
                }
            }
        }

        private void items(int sheet, int lane) {
            see("sheet", 3, lane, 2);
            see("item", 3, lane, 0, 60);
            for (int i = 0; i < 25 && see("copy", sheet, i, 3, 1, 1) == 1; i++) see("gauged", 3, lane, 0, 1, 1);
        }

        private void tapeAndImage() {
            see("type", ' ', 1);
            see("channel");
            port();
            see("restore");
            port();
        }
    }
}
