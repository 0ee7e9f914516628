/** Counts the answers of one test that are not the ones that are due. */
final class Due {
    private int calls = 0;
    private int wrong = 0;

    void due(String call, long got, long want) {
        calls++;
        if (got != want) {
            wrong++;
            System.out.println(call + " answered " + got + ", due is " + want);
        }
    }

    void finish() {
        System.out.println(calls + " answers, " + wrong + " of them not as due");
        if (wrong != 0 || calls == 0) {
            System.exit(1);
        }
    }

    /** Types a text of any length, at most eight bytes a call. */
    static int type(DeepShip ship, String text) {
        int answer = 0;
        for (int from = 0; from < text.length(); from += 8) {
            String part = text.substring(from, Math.min(text.length(), from + 8));
            answer = ship.type(word(part), part.length());
        }
        return answer;
    }

    static long word(String part) {
        long w = 0;
        for (char sign : part.toCharArray()) {
            w = w << 8 | sign;
        }
        return w;
    }
}
