import java.io.IOException;
import java.nio.file.Files;
import java.nio.file.Path;
import java.util.ArrayList;
import java.util.LinkedHashMap;
import java.util.List;
import java.util.Map;
import java.util.regex.Matcher;
import java.util.regex.Pattern;

/**
 * The document's sentences, each under its promise's number; those ahead of the promises, under
 * "What it is" and "Terms", stand under 0. A test says which sentence it is about before it checks.
 */
final class Doc {
    static final int TERMS = 0;

    private static final Pattern SECTION = Pattern.compile("## (?:(What it is|Terms)|Promise (\\d+):).*");
    private static final Pattern HEAD = Pattern.compile("^`[^`]*`: ");

    // How many checks each sentence has had, in the document's order.
    private static final Map<String, Integer> CHECKS = new LinkedHashMap<>();
    private static String current = null;
    private static int checksBefore = 0;

    private Doc() {
    }

    static void read(Path document) throws IOException {
        int promise = -1;
        List<String> paragraph = new ArrayList<>();
        boolean isCode = false;
        for (String line : Files.readAllLines(document)) {
            isCode ^= line.startsWith("```");
            Matcher section = SECTION.matcher(line);
            if (isCode || line.isBlank() || line.startsWith("#") || line.startsWith("- ")
                    || line.startsWith("```")) {
                take(promise, paragraph);
            }
            if (section.matches()) {
                promise = section.group(2) == null ? TERMS : Integer.parseInt(section.group(2));
            } else if (line.startsWith("#")) {
                promise = -1;
            } else if (!isCode && !line.isBlank() && !line.startsWith("```")) {
                paragraph.add(line.strip());
            }
        }
        take(promise, paragraph);
    }

    private static void take(int promise, List<String> paragraph) {
        if (promise >= 0 && !paragraph.isEmpty()) {
            String text = HEAD.matcher(String.join(" ", paragraph)).replaceFirst("");
            for (String sentence : text.split("(?<=\\.)\\s+(?=[A-Z])")) {
                CHECKS.put(key(promise, sentence), 0);
            }
        }
        paragraph.clear();
    }

    private static String key(int promise, String sentence) {
        return (promise == TERMS ? "" : "promise " + promise + ": ") + sentence;
    }

    /** What is checked from now on is this sentence, which has to stand in the document so. */
    static void says(int promise, String sentence) {
        count();
        current = key(promise, sentence);
        Check.about(current);
        if (!CHECKS.containsKey(current)) {
            Check.holds("the document has this sentence", false);
        }
        checksBefore = Check.checked();
    }

    /** Ends the checks of the latest sentence. */
    static void count() {
        if (current != null) {
            CHECKS.merge(current, Check.checked() - checksBefore, Integer::sum);
        }
        current = null;
        Check.about("");
    }

    /** Each sentence has had a check, but for those that name no boundary case. */
    static void everySentenceIsChecked(List<String> plain) {
        count();
        int tested = 0;
        for (Map.Entry<String, Integer> entry : CHECKS.entrySet()) {
            tested += entry.getValue() > 0 ? 1 : 0;
            Check.holds("a test or a place among the plain ones for: " + entry.getKey(),
                    entry.getValue() > 0 || isPlain(entry.getKey(), plain));
        }
        for (String sentence : plain) {
            Check.holds("the document has this plain sentence: " + sentence,
                    CHECKS.containsKey(sentence));
        }
        System.out.println(CHECKS.size() + " sentences, " + tested + " of them with tests");
    }

    /** What only names an argument or an answer, without any number, names no boundary. */
    private static boolean isPlain(String key, List<String> plain) {
        String sentence = key.replaceFirst("^promise \\d+: ", "");
        boolean isName = sentence.startsWith("- `") || sentence.startsWith("Returns ");
        return plain.contains(key) || sentence.startsWith("Ahead of the calls ")
                || isName && sentence.split(" ").length <= 14 && !sentence.matches(".*\\d.*");
    }
}
