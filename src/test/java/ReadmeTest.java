import java.io.IOException;
import java.net.URL;
import java.net.URLClassLoader;
import java.nio.file.Files;
import java.nio.file.Path;
import java.util.ArrayList;
import java.util.List;
import java.util.Set;
import java.util.TreeSet;
import java.util.regex.Matcher;
import java.util.regex.Pattern;
import java.util.stream.Stream;
import javax.tools.ToolProvider;

/** README.md: its calls compile and answer as it tells, and what it says of the tests is so. */
public final class ReadmeTest {
    private static final Path PAGE = Path.of("README.md");
    private static final Path OUT = Path.of("build/readme");
    private static final Path TESTS = Path.of("src/test/java");
    private static final Pattern BLOCK = Pattern.compile("(?ms)^```(\\w+)\n(.*?)^```$");
    private static final Pattern TOLD = Pattern.compile("^(house\\.\\w+\\(.*\\)); +// -> (-?\\d+|true|false)(:.*)?$");

    public static void main(String[] args) throws Exception {
        String page = Files.readString(PAGE);
        calls(page);
        tests(page);
        Due.done();
    }

    private static void calls(String page) throws Exception {
        StringBuilder members = new StringBuilder();
        StringBuilder main = new StringBuilder();
        List<String> calls = new ArrayList<>();
        List<String> told = new ArrayList<>();
        for (String block : blocks(page, "java")) {
            if (block.startsWith("static ")) {
                members.append(block);
                continue;
            }
            for (String line : block.split("\n")) {
                Matcher answer = TOLD.matcher(line);
                if (answer.matches()) {
                    calls.add(answer.group(1));
                    told.add(answer.group(2));
                    main.append("all.add(String.valueOf(").append(answer.group(1)).append("));\n");
                } else {
                    boolean answersNone = line.startsWith("ClayHouse house = ") || line.startsWith("put(");
                    Due.is("no answer is told: " + line, answersNone, true);
                    main.append(line).append('\n');
                }
            }
        }
        List<?> answers = answers("public final class Page {\n" + members
                + "public static java.util.List<String> answers() {\n"
                + "java.util.List<String> all = new java.util.ArrayList<>();\n" + main + "return all;\n}\n}\n");
        Due.is("many calls, all of them answered", told.size() > 40 && answers.size() == told.size(), true);
        for (int i = 0; i < answers.size(); i++) {
            String answered = calls.get(i) + " answered " + answers.get(i) + ", the page tells " + told.get(i);
            Due.is(answered, answers.get(i).equals(told.get(i)), true);
        }
    }

    private static List<?> answers(String source) throws Exception {
        Files.createDirectories(OUT);
        Path file = OUT.resolve("Page.java");
        Files.writeString(file, source);
        String path = System.getProperty("java.class.path");
        int failed = ToolProvider.getSystemJavaCompiler().run(null, null, null, "-cp", path, "-d", OUT.toString(),
                file.toString());
        Due.is("the page's calls compile", failed, 0);
        URL[] urls = {OUT.toUri().toURL()};
        try (URLClassLoader loader = new URLClassLoader(urls, ReadmeTest.class.getClassLoader())) {
            return (List<?>) loader.loadClass("Page").getMethod("answers").invoke(null);
        }
    }

    private static void tests(String page) throws IOException {
        Due.is("its command alone: " + blocks(page, "sh"), blocks(page, "sh").equals(List.of(".ci/run\n")), true);
        Due.is(".ci/run can be run", Files.isExecutable(Path.of(".ci/run")), true);
        String alone = "`java -cp " + System.getProperty("java.class.path") + " BallTest`";
        Due.is("one test alone is run by " + alone, page.contains(alone), true);
        Set<String> named = new TreeSet<>();
        Matcher row = Pattern.compile("(?m)^\\| (\\w+Test(?:, \\w+Test)*) \\|").matcher(page);
        while (row.find()) {
            named.addAll(List.of(row.group(1).split(", ")));
        }
        Set<String> there = new TreeSet<>();
        try (Stream<Path> files = Files.list(TESTS)) {
            for (Path file : files.toList()) {
                String name = file.getFileName().toString().replace(".java", "");
                boolean hasMain = Files.readString(file).contains("public static void main(");
                Due.is(name + " is a test by its name if it has a main method", name.endsWith("Test"), hasMain);
                if (hasMain) {
                    there.add(name);
                }
            }
        }
        Due.is("the table " + named + " names all tests " + there, named.equals(there), true);
        promises(page);
    }

    // The promises that the table's rows tell (1 to 7; 8, 10, 11, 12; ..) are all together 1 to 39.
    private static void promises(String page) {
        Set<Integer> told = new TreeSet<>();
        Matcher row = Pattern.compile("(?m)^\\| \\w+Test.*? \\| ([\\d, to]+)").matcher(page);
        while (row.find()) {
            if (!row.group().contains("RefusedTest")) {
                Matcher some = Pattern.compile("(\\d+)(?: to (\\d+))?").matcher(row.group(1));
                while (some.find()) {
                    int first = Integer.parseInt(some.group(1));
                    int last = some.group(2) == null ? first : Integer.parseInt(some.group(2));
                    for (int promise = first; promise <= last; promise++) {
                        told.add(promise);
                    }
                }
            }
        }
        for (int promise = 1; promise <= 39; promise++) {
            Due.is("a test of promise " + promise, told.contains(promise), true);
        }
    }

    private static List<String> blocks(String page, String language) {
        List<String> all = new ArrayList<>();
        Matcher block = BLOCK.matcher(page);
        while (block.find()) {
            if (block.group(1).equals(language)) {
                all.add(block.group(2));
            }
        }
        return all;
    }
}
