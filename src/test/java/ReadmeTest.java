import java.io.IOException;
import java.lang.reflect.Method;
import java.lang.reflect.Modifier;
import java.net.URL;
import java.net.URLClassLoader;
import java.nio.file.Files;
import java.nio.file.Path;
import java.util.ArrayList;
import java.util.Comparator;
import java.util.List;
import java.util.function.LongConsumer;
import java.util.regex.Matcher;
import java.util.regex.Pattern;
import java.util.stream.Stream;
import javax.tools.JavaCompiler;
import javax.tools.ToolProvider;

/** What README.md shows is so: its examples are compiled and run as they stand there; run from the checkout's root. */
public final class ReadmeTest {
    private static final Check CHECK = new Check("ReadmeTest");
    private static final int FEWEST_EXAMPLES = 50;
    /** A call that is shown by itself: 'x.say(1);  // 1: why'. */
    private static final Pattern SHOWN = Pattern.compile("x\\.(\\w+\\([^;]*\\)); +// (-?\\d+|[A-Z]+)(:.*)?");

    private record Shown(String call, long due) {
    }

    public static void main(String[] args) throws Exception {
        String readme = Files.readString(Path.of("README.md"));
        List<Shown> shown = new ArrayList<>();
        String source = source(blocks(readme), shown);
        CHECK.isTrue("there are examples: " + shown.size(), shown.size() >= FEWEST_EXAMPLES);
        List<Long> answers = answersOf(source);
        CHECK.due("answers of all examples", answers.size(), shown.size());
        for (int i = 0; i < Math.min(answers.size(), shown.size()); i++) {
            CHECK.due("README's example " + shown.get(i).call(), answers.get(i), shown.get(i).due());
        }
        callsAreNamed(readme);
        answersAreExplained(readme);
        CHECK.isTrue("the tests are run as told", readme.contains("\n    .ci/run\n")
                && Files.isExecutable(Path.of(".ci/run")));
        testsAreThere(readme);
        CHECK.close();
    }

    /** The lines of the examples, from all of README.md. */
    private static List<String> blocks(String readme) {
        List<String> lines = new ArrayList<>();
        boolean inside = false;
        for (String line : readme.split("\n")) {
            if (line.startsWith("```")) {
                CHECK.isTrue("an example is Java: " + line, inside ? line.equals("```") : line.equals("```java"));
                inside = !inside;
            } else if (inside) {
                lines.add(line);
            }
        }
        CHECK.isTrue("the last example ends", !inside);
        return lines;
    }

    /** A class that does what the lines say, and tells the answer of each call that is shown by itself. */
    private static String source(List<String> lines, List<Shown> shown) {
        StringBuilder source = new StringBuilder("public final class ReadmeExamples {\n"
                + "public static void run(java.util.function.LongConsumer theAnswers) {\n");
        for (String line : lines) {
            Matcher m = SHOWN.matcher(line);
            if (m.matches()) {
                shown.add(new Shown(m.group(1), number(m.group(2))));
                source.append("theAnswers.accept(x.").append(m.group(1)).append(");\n");
            } else {
                CHECK.isTrue("a call has its answer beside it: " + line, !line.startsWith("x."));
                source.append(line).append('\n');
            }
        }
        return source.append("}\n}\n").toString();
    }

    private static long number(String due) {
        return switch (due) {
            case "BAD" -> RiverSuit.BAD;
            case "STATE" -> RiverSuit.STATE;
            case "FULL" -> RiverSuit.FULL;
            case "NONE" -> RiverSuit.NONE;
            default -> Long.parseLong(due);
        };
    }

    private static List<Long> answersOf(String source) throws Exception {
        Path place = Files.createTempDirectory("readme");
        try {
            Path file = Files.writeString(place.resolve("ReadmeExamples.java"), source);
            JavaCompiler compiler = ToolProvider.getSystemJavaCompiler();
            int refused = compiler.run(null, null, null, "-d", place.toString(),
                    "-cp", System.getProperty("java.class.path"), file.toString());
            CHECK.due("javac of the examples", refused, 0);
            return refused == 0 ? run(place) : List.of();
        } finally {
            remove(place);
        }
    }

    private static List<Long> run(Path place) throws Exception {
        List<Long> answers = new ArrayList<>();
        LongConsumer told = answers::add;
        try (URLClassLoader loader = new URLClassLoader(new URL[] {place.toUri().toURL()})) {
            loader.loadClass("ReadmeExamples").getMethod("run", LongConsumer.class).invoke(null, told);
        }
        return answers;
    }

    private static void remove(Path place) throws IOException {
        try (Stream<Path> all = Files.walk(place)) {
            for (Path path : all.sorted(Comparator.reverseOrder()).toList()) {
                Files.delete(path);
            }
        }
    }

    /** Each call of the face is named, with so many numbers as it takes; none is that there is not. */
    private static void callsAreNamed(String readme) {
        List<String> named = new ArrayList<>();
        for (Matcher m = Pattern.compile("`(\\w+)\\(([a-z, ]*)\\)`").matcher(readme); m.find();) {
            named.add(m.group(1) + " " + (m.group(2).isEmpty() ? 0 : m.group(2).split(",").length));
        }
        List<String> face = new ArrayList<>();
        for (Method m : RiverSuit.class.getDeclaredMethods()) {
            if (Modifier.isPublic(m.getModifiers())) {
                face.add(m.getName() + " " + m.getParameterCount());
            }
        }
        for (String call : face) {
            CHECK.isTrue("README.md names " + call, named.contains(call));
        }
        for (String call : named) {
            CHECK.isTrue("there is a call as README.md names it: " + call, face.contains(call));
        }
    }

    private static void answersAreExplained(String readme) {
        for (String answer : List.of("BAD", "STATE", "FULL", "NONE")) {
            String row = "(?s).*\\| `" + answer + "` *\\| *" + number(answer) + " *\\| *\\w.*";
            CHECK.isTrue("README.md says what " + answer + " is", readme.matches(row));
        }
    }

    private static void testsAreThere(String readme) {
        int met = 0;
        for (Matcher m = Pattern.compile("\\b(\\w+Test)\\b").matcher(readme); m.find();) {
            met++;
            CHECK.isTrue(m.group(1) + " is there", Files.exists(Path.of("src/test/java", m.group(1) + ".java")));
        }
        CHECK.isTrue("README.md names tests", met > 0);
    }
}
