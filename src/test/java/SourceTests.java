import java.io.IOException;
import java.nio.file.Files;
import java.nio.file.Path;
import java.util.List;
import java.util.regex.Matcher;
import java.util.regex.Pattern;

/** Some rules of LANGUAGE.md that can be looked up in the text of the class. */
public final class SourceTests {
    private static final Path SOURCE = Path.of("src/main/java/QuarryRopes.java");
    private static final int MOST_LINES = 60;
    private static final String[] FORBIDDEN = {
        "\\b(package|import|throw|throws|try|catch|finally|synchronized|assert|instanceof|protected|transient|volatile)\\b",
        "\\b(Object|System|Random|Thread|Exception|Error|hashCode|equals|toString|lambda|var)\\b",
        "::", "\\w*Exact\\(", "static (?!final)\\w+(\\[\\])? \\w+( =|;)", "\" \\+|\\+ \""};
    // Rows of numbers are touched in the four small functions alone; these hold own classes.
    private static final String[] INDEXED = {"row[index]", "to[index]", "words[number]", "words[commands]", "slots[index]",
        "slots[next]"};

    private static int wrong = 0;

    private static void report(int number, String line) {
        wrong++;
        System.out.println(SOURCE + ":" + (number + 1) + ": " + line.trim());
    }

    private static String code(String line) {
        int comment = line.indexOf("//");
        String code = comment < 0 ? line : line.substring(0, comment);
        return code.trim().startsWith("*") || code.trim().startsWith("/*") ? "" : code;
    }

    private static void lookForForbidden(List<String> lines) {
        for (int number = 0; number < lines.size(); number++) {
            for (String pattern : FORBIDDEN) {
                if (Pattern.compile(pattern).matcher(code(lines.get(number))).find()) {
                    report(number, lines.get(number));
                }
            }
        }
    }

    private static void lookForIndexes(List<String> lines) {
        Pattern indexed = Pattern.compile("(?<!new )\\b\\w+\\[\\w[^\\]]*\\]");
        for (int number = 0; number < lines.size(); number++) {
            Matcher matcher = indexed.matcher(code(lines.get(number)));
            while (matcher.find()) {
                if (!List.of(INDEXED).contains(matcher.group())) {
                    report(number, lines.get(number));
                }
            }
        }
    }

    private static void lookForLongMethods(List<String> lines) {
        int start = -1;
        for (int number = 0; number < lines.size(); number++) {
            String line = lines.get(number);
            if (line.matches(" {4,8}(?!.*\\b(class|enum)\\b)\\S.*\\) \\{")) {
                start = number;
            }
            if (line.matches(" {4,8}\\}") && start >= 0) {
                if (number - start >= MOST_LINES) {
                    report(start, lines.get(start));
                }
                start = -1;
            }
        }
    }

    public static void main(String[] args) throws IOException {
        List<String> lines = Files.readAllLines(SOURCE);
        lookForForbidden(lines);
        lookForIndexes(lines);
        lookForLongMethods(lines);
        System.out.println("SourceTests: " + wrong + " faults");
        if (wrong != 0) {
            System.exit(1);
        }
    }
}
