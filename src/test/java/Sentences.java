import java.io.IOException;
import java.nio.file.Files;
import java.nio.file.Path;
import java.util.ArrayList;
import java.util.LinkedHashMap;
import java.util.List;
import java.util.Map;

/**
 * Which sentence of the document the answers that follow are due by. Each is quoted: in the end it is looked whether the
 * quotes stand in the document, whether each has a test, and whether the promises and terms are quoted from end to end.
 */
final class Sentences {
    static final int TERMS = 0, WHAT_IT_IS = -1;
    private static final Path DOCUMENT = Path.of("../shared/DOC.md");

    private final Map<Integer, String> sections = new LinkedHashMap<>();
    private final Map<Integer, boolean[]> quoted = new LinkedHashMap<>();
    private final List<String> faults = new ArrayList<>();
    private int section = TERMS;
    private String sentence = "";
    private int tests = 1;
    private int answers = 0;
    private int wrong = 0;

    Sentences() throws IOException {
        if (Files.exists(DOCUMENT)) {
            read(Files.readString(DOCUMENT));
        } else {
            System.out.println("there is no " + DOCUMENT + ": quotes are not looked at");
        }
    }

    private void read(String document) {
        for (String part : document.split("(?m)^## ")) {
            int end = part.indexOf('\n');
            String title = end < 0 ? part : part.substring(0, end);
            String text = part.substring(Math.max(0, end)).replaceAll("(?m)^```.*$", " ").replaceAll("(?m)^==== [0-9]", " ")
                .replaceAll("\\s+", " ");
            if (title.equals("What it is")) keep(WHAT_IT_IS, text);
            if (title.equals("Terms")) keep(TERMS, text);
            if (title.matches("Promise [0-9]+: .*")) keep(Integer.parseInt(title.replaceAll("[^0-9]", "")), text);
        }
    }

    private void keep(int number, String text) {
        sections.put(number, text);
        quoted.put(number, new boolean[text.length()]);
    }

    /** The answers that follow are due by this sentence: of a promise, or of the terms. */
    void says(int number, String quote) {
        finishSentence();
        section = number;
        sentence = quote;
        tests = 0;
        if (sections.isEmpty()) return;
        String text = sections.getOrDefault(number, "");
        int at = text.indexOf(quote);
        if (at < 0) {
            faults.add(title(number) + " does not say: " + quote);
            return;
        }
        for (int i = at; i < at + quote.length(); i++) quoted.get(number)[i] = true;
    }

    private void finishSentence() {
        if (tests == 0) faults.add(title(section) + " has no test of: " + sentence);
    }

    private static String title(int number) {
        return number == WHAT_IT_IS ? "what it is" : number == TERMS ? "terms" : "promise " + number;
    }

    void due(String call, long got, long want) {
        answers++;
        tests++;
        if (got != want) {
            wrong++;
            System.out.println(title(section) + ", '" + sentence + "': " + call + " answered " + got + ", due is " + want);
        }
    }

    Tried fresh() {
        return new Tried(this);
    }

    void finish() {
        finishSentence();
        sections.forEach(this::lookForUnquoted);
        faults.forEach(System.out::println);
        System.out.println(answers + " answers, " + wrong + " of them not as due");
        if (wrong != 0 || answers == 0 || !faults.isEmpty()) System.exit(1);
    }

    private void lookForUnquoted(int number, String text) {
        if (number == WHAT_IT_IS) return;
        // The terms end with what the interface says ahead of its calls, a promise begins with its call.
        int end = number == TERMS ? text.indexOf("Ahead of the calls") : text.length();
        int begin = number == TERMS ? 0 : text.indexOf("`:") + 2;
        StringBuilder left = new StringBuilder();
        for (int i = begin; i < end; i++) {
            left.append(quoted.get(number)[i] ? '\n' : text.charAt(i));
        }
        for (String part : left.toString().split("\n+")) {
            if (part.matches(".*[A-Za-z0-9].*")) faults.add(title(number) + " is not quoted at: " + part);
        }
    }
}
