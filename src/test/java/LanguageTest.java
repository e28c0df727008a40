import java.io.IOException;
import java.nio.file.Files;
import java.nio.file.Path;
import java.util.regex.Matcher;
import java.util.regex.Pattern;

/** LANGUAGE.md: what a look at the source can tell. It is run from the project's own directory. */
final class LanguageTest {
    private static final String[] FORBIDDEN = {"\\bfinally\\b", "\\bsynchronized\\b", "\\bassert\\b", "->",
        "::", "\\bpackage\\b", "Exact\\(", "\\bRandom\\b", "\\bnanoTime\\b", "\\bcurrentTimeMillis\\b",
        "\\bhashCode\\b", "\\bprotected\\b", "\\bstatic\\s*\\{", "\\bwhile\\s*\\(true\\)",
        "\\bfor\\s*\\(\\s*;", "\\?\\s*extends", "\\bString\\.format\\b", "\\bSystem\\.(?!arraycopy\\b)",
        // What the machine itself throws is never caught, by its own name or by a class above it.
        "\\bcatch\\s*\\([^)]*\\b(?:Throwable|Exception|RuntimeException|NullPointerException"
            + "|ArrayIndexOutOfBoundsException|StringIndexOutOfBoundsException|ClassCastException"
            + "|NegativeArraySizeException|ArrayStoreException|Error|\\w+Error)\\b"};

    public static void main(String[] args) throws IOException {
        String source = Files.readString(Path.of("src/main/java/CanalLocks.java"));
        String code = source.replaceAll("(?s)/\\*.*?\\*/", "").replaceAll("//[^\n]*", "")
                .replaceAll("\"[^\"\n]*\"", "\"\"");
        for (String pattern : FORBIDDEN) {
            Matcher matcher = Pattern.compile(pattern).matcher(code);
            Check.holds("no " + pattern + " in the source", !matcher.find());
        }
        Check.holds("plain signs alone", source.chars().allMatch(sign -> sign < 127));
        Matcher imports = Pattern.compile("import ([^;]+);").matcher(code);
        while (imports.find()) {
            Check.same("the only import", "java.util.NoSuchElementException", imports.group(1));
        }
        noTextsJoinedByPlus(code);
        shortMethods(source);
        Check.end();
    }

    private static void noTextsJoinedByPlus(String code) {
        Check.holds("no text joined by +", !Pattern.compile("\"\"\\s*\\+|\\+\\s*\"\"").matcher(code).find());
    }

    /** A method ends where its closing brace stands as far left as its head. */
    private static void shortMethods(String source) {
        String[] lines = source.split("\n");
        for (int head = 0; head < lines.length; head++) {
            Matcher matcher = Pattern.compile("^( {4}| {8})(?! )[^=;]*\\(.*").matcher(lines[head]);
            if (!matcher.matches() || lines[head].endsWith(";") || lines[head].contains("class ")) {
                continue;
            }
            int end = head;
            while (end < lines.length && !lines[end].equals(matcher.group(1) + "}")) {
                end++;
            }
            Check.holds("a short method: " + lines[head].trim(), end - head < 60);
        }
    }
}
