import java.io.IOException;
import java.net.MalformedURLException;
import java.net.URL;
import java.net.URLClassLoader;
import java.nio.file.Files;
import java.nio.file.Path;
import java.util.ArrayList;
import java.util.Comparator;
import java.util.List;
import java.util.Set;
import java.util.TreeSet;
import java.util.function.Consumer;
import java.util.regex.Matcher;
import java.util.regex.Pattern;
import java.util.stream.Stream;

/** README.md: its examples answer what it says, they show each part of the use, and it names all tests. */
public final class ReadmeTest {
    private static final Pattern ANSWER =
            Pattern.compile("(?:\\w+ \\w+ = )?(buffer\\..*?);\\s+// (-?\\d+|[A-Z_]{4,})\\b.*");
    private static final Path TESTS = Path.of("src/test/java");

    public static void main(String[] args) throws Exception {
        List<String> lines = Files.readAllLines(Path.of("README.md"));
        examples(lines);
        partsOfTheUse(lines);
        tests(String.join("\n", lines));
        Due.end();
    }

    private static void examples(List<String> lines) throws Exception {
        Path folder = Files.createTempDirectory("readme");
        try {
            runExamples(program(lines), folder);
        } finally {
            remove(folder);
        }
    }

    /**
     * A program with the examples twice: as they stand, for the compiler alone, and so that each tells what is called,
     * what it answers, and what README.md says.
     */
    private static String program(List<String> lines) {
        StringBuilder program = new StringBuilder();
        program.append("public class Examples implements java.util.function.Consumer<java.util.List<Object[]>> {\n");
        program.append("void asTheyStand() {\n");
        for (String line : code(lines)) {
            program.append(line).append('\n');
        }
        program.append("}\npublic void accept(java.util.List<Object[]> answers) {\n");
        for (String line : code(lines)) {
            program.append(telling(line)).append('\n');
        }
        return program.append("}\n}\n").toString();
    }

    private static List<String> code(List<String> lines) {
        List<String> code = new ArrayList<>();
        boolean inside = false;
        for (String line : lines) {
            if (line.startsWith("```")) {
                inside = line.equals("```java");
            } else if (inside) {
                code.add(line);
            }
        }
        return code;
    }

    private static String telling(String line) {
        Matcher matcher = ANSWER.matcher(line);
        if (!matcher.matches()) {
            return line;
        }
        String call = matcher.group(1);
        String said = matcher.group(2);
        String value = Character.isLetter(said.charAt(0)) ? "PlayoutBuffer." + said : said;
        return "answers.add(new Object[] {\"" + call.replace("\"", "\\\"") + "\", (long) (" + call + "), (long) (" + value + ")});";
    }

    private static void runExamples(String program, Path folder) throws Exception {
        Path source = folder.resolve("Examples.java");
        Files.writeString(source, program);
        int code = new ProcessBuilder("javac", "-encoding", "UTF-8", "-cp", System.getProperty("java.class.path"),
                "-d", folder.toString(), source.toString()).inheritIO().start().waitFor();
        Due.due("compiling the examples", code, 0);
        if (code == 0) {
            List<Object[]> answers = new ArrayList<>();
            loaded(folder).accept(answers);
            Due.due("there are answers", answers.size() > 50 ? 1 : 0, 1);
            for (Object[] answer : answers) {
                Due.due("README.md: " + answer[0], (Long) answer[1], (Long) answer[2]);
            }
        }
    }

    @SuppressWarnings("unchecked")
    private static Consumer<List<Object[]>> loaded(Path folder) throws ReflectiveOperationException, MalformedURLException {
        URL[] place = {folder.toUri().toURL()};
        Class<?> examples = new URLClassLoader(place, ReadmeTest.class.getClassLoader()).loadClass("Examples");
        return (Consumer<List<Object[]>>) examples.getDeclaredConstructor().newInstance();
    }

    private static void remove(Path folder) throws IOException {
        try (Stream<Path> files = Files.walk(folder)) {
            for (Path file : files.sorted(Comparator.reverseOrder()).toList()) {
                Files.delete(file);
            }
        }
    }

    /** How the class is used: each of these stands in the examples, in this order. */
    private static void partsOfTheUse(List<String> lines) {
        String code = String.join("\n", code(lines));
        int from = 0;
        for (String part : new String[] {"new PlayoutBuffer()", "setFrame(", "arrive(", "arriveParity(", "advance(",
            "output(", "append(", "schedule(", "keep(", "restore("}) {
            int place = code.indexOf(part, from);
            Due.due("README.md shows " + part, place >= 0 ? 1 : 0, 1);
            from = Math.max(from, place);
        }
    }

    /** How the tests are run: it names the script, and all tests that there are. */
    private static void tests(String page) throws IOException {
        Due.due("README.md names the script", page.contains("bash .ci/run") ? 1 : 0, 1);
        Set<String> named = new TreeSet<>();
        Matcher matcher = Pattern.compile("`(\\w+Test)`").matcher(page);
        while (matcher.find()) {
            named.add(matcher.group(1));
        }
        Set<String> present = new TreeSet<>();
        try (Stream<Path> files = Files.list(TESTS)) {
            for (Path file : files.toList()) {
                String name = file.getFileName().toString().replace(".java", "");
                if (name.endsWith("Test")) {
                    present.add(name);
                }
            }
        }
        Due.due("README.md names the tests that there are: " + named + present, named.equals(present) ? 1 : 0, 1);
    }
}
