import java.io.IOException;
import java.nio.file.Files;
import java.nio.file.Path;
import java.util.ArrayList;
import java.util.Comparator;
import java.util.List;
import java.util.concurrent.Callable;
import java.util.concurrent.ExecutorService;
import java.util.concurrent.Executors;
import java.util.concurrent.Future;
import java.util.stream.Stream;

/**
 * .ci/run itself, on small projects of another class: it runs all tests of both places and fails if one
 * fails. Each project is made anew under build/run, with a shared place beside it.
 */
public final class RunTest {
    private static final Path OUT = Path.of("build/run");
    private static final String FINE = "System.out.println(\"RAN\");";
    private static final String WRONG = "System.out.println(\"RAN\"); System.exit(1);";
    private static final String THROWS = "System.out.println(\"RAN\"); throw new IllegalStateException();";
    private static final String BROKEN = "this does not compile";
    private static final String CLASS = "public final class ClayHouse { }";

    public static void main(String[] args) throws Exception {
        List<Callable<Void>> projects = new ArrayList<>();
        projects.add(() -> project("allFine", CLASS, new String[] {FINE, FINE}, new String[] {FINE, FINE}, true, 4));
        projects.add(() -> project("firstWrong", CLASS, new String[] {WRONG, FINE}, new String[] {FINE}, false, 3));
        projects.add(() -> project("lastWrong", CLASS, new String[] {FINE, WRONG}, new String[] {FINE}, false, 3));
        projects.add(() -> project("testThrows", CLASS, new String[] {THROWS, FINE}, new String[] {FINE}, false, 3));
        projects.add(() -> project("testBroken", CLASS, new String[] {FINE, BROKEN}, new String[] {FINE}, false, 0));
        projects.add(() -> project("sharedWrong", CLASS, new String[] {FINE}, new String[] {WRONG, FINE}, false, 3));
        projects.add(() -> project("sharedThrows", CLASS, new String[] {FINE}, new String[] {FINE, THROWS}, false, 3));
        projects.add(() -> project("sharedBroken", CLASS, new String[] {FINE}, new String[] {BROKEN, FINE}, false, 2));
        projects.add(() -> project("noShared", CLASS, new String[] {FINE}, new String[] {}, false, 1));
        projects.add(() -> project("classBroken", BROKEN, new String[] {FINE}, new String[] {FINE}, false, 0));
        ExecutorService threads = Executors.newFixedThreadPool(Runtime.getRuntime().availableProcessors());
        try {
            for (Future<Void> project : threads.invokeAll(projects)) {
                project.get();
            }
        } finally {
            threads.shutdown();
        }
        Due.done();
    }

    private static Void project(String name, String source, String[] own, String[] shared, boolean passes, int ran)
            throws Exception {
        Path place = OUT.resolve(name);
        clear(place);
        Path root = place.resolve("main");
        Path script = root.resolve(".ci/run");
        Files.createDirectories(script.getParent());
        Files.copy(Path.of(".ci/run"), script);
        is(name + ": the copy can be run", script.toFile().setExecutable(true), true);
        write(root.resolve("src/main/java/ClayHouse.java"), source);
        for (int i = 0; i < own.length; i++) {
            write(root.resolve("src/test/java/Own" + i + "Test.java"), test("Own" + i + "Test", own[i]));
        }
        Files.createDirectories(place.resolve("shared/tests"));
        for (int i = 0; i < shared.length; i++) {
            write(place.resolve("shared/tests/Shared" + i + ".java"), test("Shared" + i, shared[i]));
        }
        Path told = place.resolve("told.txt");
        // From another directory than its own: it finds its way by where it stands.
        Process process = new ProcessBuilder(script.toAbsolutePath().toString()).directory(OUT.toFile())
                .redirectErrorStream(true).redirectOutput(told.toFile()).start();
        int exit = process.waitFor();
        is(name + ": passes, exit code " + exit, exit == 0, passes);
        long lines = Files.readString(told).lines().filter(line -> line.equals("RAN")).count();
        is(name + ": so many ran: " + lines, lines == ran, true);
        return null;
    }

    private static synchronized void is(String what, boolean got, boolean want) {
        Due.is(what, got, want);
    }

    private static String test(String name, String body) {
        return "public final class " + name + " {\n  public static void main(String[] args) {\n    new ClayHouse();\n    "
                + body + "\n  }\n}\n";
    }

    private static void write(Path file, String text) throws IOException {
        Files.createDirectories(file.getParent());
        Files.writeString(file, text);
    }

    private static void clear(Path place) throws IOException {
        if (Files.exists(place)) {
            try (Stream<Path> files = Files.walk(place)) {
                for (Path file : files.sorted(Comparator.reverseOrder()).toList()) {
                    Files.delete(file);
                }
            }
        }
        Files.createDirectories(place);
    }
}
