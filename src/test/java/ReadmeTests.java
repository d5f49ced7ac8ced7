import java.io.IOException;
import java.lang.reflect.Method;
import java.lang.reflect.Modifier;
import java.net.URI;
import java.net.URL;
import java.net.URLClassLoader;
import java.nio.file.Files;
import java.nio.file.Path;
import java.util.ArrayList;
import java.util.List;
import java.util.regex.Matcher;
import java.util.regex.Pattern;
import javax.tools.JavaCompiler;
import javax.tools.JavaFileObject;
import javax.tools.SimpleJavaFileObject;
import javax.tools.ToolProvider;

/** The calls of README.md's examples give the answers that stand behind them, and it names every call of the class. */
public final class ReadmeTests {
    private static final Path README = Path.of("README.md");
    private static final Pattern CALL = Pattern.compile("\\s*(quarry\\.\\w+\\(.*\\));.*");
    private static final Pattern ANSWERED = Pattern.compile(
        "\\s*(quarry\\.\\w+\\(.*\\)); +// (-?\\d+(?:\\.\\d+)?|NONE|BAD|REFUSED|NOTHING)(?:: (.*))?");
    private static final Pattern LINE = Pattern.compile("the line is \"([^\"]*)\"");
    private static final String TYPING = "quarry.append(sign);";

    private static int asked = 0;
    private static int wrong = 0;

    /** The source of a class that carries out the examples; for the compiler it is a file. */
    private static final class Source extends SimpleJavaFileObject {
        private final StringBuilder text = new StringBuilder();

        Source() {
            super(URI.create("string:///ReadmeExamples.java"), JavaFileObject.Kind.SOURCE);
        }

        @Override
        public CharSequence getCharContent(boolean ignoreEncodingErrors) {
            return text;
        }
    }

    public static void due(String place, double got, double want) {
        asked++;
        if (got != want) {
            report(place + " answered " + got + ", README.md says " + want);
        }
    }

    public static void dueLine(String place, QuarryRopes quarry, String want) {
        StringBuilder got = new StringBuilder();
        for (int index = 0; quarry.written(index) != QuarryRopes.NONE; index++) {
            got.append((char) quarry.written(index));
        }
        asked++;
        if (!want.contentEquals(got)) {
            report(place + " wrote \"" + got + "\", README.md says \"" + want + "\"");
        }
    }

    private static void report(String fault) {
        wrong++;
        System.out.println(fault);
    }

    private static String quoted(String text) {
        return '"' + text.replace("\\", "\\\\").replace("\"", "\\\"") + '"';
    }

    /** A line of an example, its call held to the answer behind it. */
    private static String held(String line, int number) {
        Matcher answered = ANSWERED.matcher(line);
        if (!answered.matches()) {
            if (CALL.matcher(line).matches() && !line.trim().equals(TYPING)) {
                report("line " + number + " names no answer: " + line);
            }
            return line;
        }
        String call = answered.group(1);
        String place = quoted("line " + number + ": " + call);
        String answer = answered.group(2);
        String want = answer.matches("[A-Z]+") ? "QuarryRopes." + answer : answer;
        StringBuilder source = new StringBuilder("ReadmeTests.due(" + place + ", " + call + ", " + want + ");");
        Matcher told = LINE.matcher(answered.group(3) == null ? "" : answered.group(3));
        if (told.find()) {
            source.append(" ReadmeTests.dueLine(" + place + ", quarry, " + quoted(told.group(1)) + ");");
        }
        return source.toString();
    }

    private static int addExamples(Source source, List<String> lines) {
        int examples = 0;
        boolean isInside = false;
        source.text.append("public final class ReadmeExamples { public static void main(String[] args) {\n");
        for (int index = 0; index < lines.size(); index++) {
            String line = lines.get(index);
            if (line.startsWith("```")) {
                examples += line.equals("```java") ? 1 : 0;
                source.text.append(line.equals("```java") ? "{\n" : isInside ? "}\n" : "");
                isInside = line.equals("```java");
            } else if (isInside) {
                source.text.append(held(line, index + 1)).append('\n');
            }
        }
        source.text.append("} }\n");
        return examples;
    }

    private static void runExamples(Source source) throws IOException, ReflectiveOperationException {
        JavaCompiler compiler = ToolProvider.getSystemJavaCompiler();
        Path room = Files.createTempDirectory("readme");
        List<String> options = List.of("--release", "17", "-d", room.toString(), "-cp", System.getProperty("java.class.path"));
        if (!compiler.getTask(null, null, null, options, null, List.of(source)).call()) {
            report("the examples cannot be compiled");
        } else {
            URL[] places = {room.toUri().toURL()};
            try (URLClassLoader loader = new URLClassLoader(places, ReadmeTests.class.getClassLoader())) {
                loader.loadClass("ReadmeExamples").getMethod("main", String[].class).invoke(null, (Object) new String[0]);
            }
        }
        Files.deleteIfExists(room.resolve("ReadmeExamples.class"));
        Files.deleteIfExists(room);
    }

    private static void lookForCalls(String text) {
        for (Method method : QuarryRopes.class.getDeclaredMethods()) {
            List<String> types = new ArrayList<>();
            for (Class<?> type : method.getParameterTypes()) {
                types.add("\\w+");
            }
            String call = "`" + method.getName() + "\\(" + String.join(", ", types) + "\\)`";
            if (Modifier.isPublic(method.getModifiers()) && !Pattern.compile(call).matcher(text).find()) {
                report("README.md does not name " + method.getName() + " with its arguments");
            }
        }
    }

    public static void main(String[] args) throws IOException, ReflectiveOperationException {
        List<String> lines = Files.readAllLines(README);
        Source source = new Source();
        if (addExamples(source, lines) == 0) {
            report("README.md has no example");
        }
        runExamples(source);
        if (asked == 0) {
            report("README.md's examples name no answer");
        }
        lookForCalls(String.join("\n", lines));
        if (!lines.contains("    bash .ci/run")) {
            report("README.md does not say how to run the tests");
        }
        System.out.println("ReadmeTests: " + asked + " answers of the README's examples, " + wrong + " faults");
        if (wrong != 0) {
            System.exit(1);
        }
    }
}
