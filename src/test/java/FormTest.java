import java.io.IOException;
import java.io.PrintWriter;
import java.io.StringWriter;
import java.nio.file.Files;
import java.nio.file.Path;
import java.util.ArrayList;
import java.util.Collections;
import java.util.List;
import java.util.Map;
import java.util.Set;
import java.util.TreeMap;
import java.util.TreeSet;
import java.util.regex.Matcher;
import java.util.regex.Pattern;
import java.util.spi.ToolProvider;
import java.util.stream.Stream;

/**
 * The form of the program by ../shared/LANGUAGE.md, as far as the compiled class shows it: which methods of
 * the library it calls, that it never throws or catches, what it makes and where, how deep calls go.
 */
public final class FormTest {
    private static final Pattern OPENS = Pattern.compile("^  (?:[\\w$.\\[\\], ]+ )?([\\w$]+)\\(.*\\);$");
    private static final Pattern CALLS = Pattern.compile("invoke\\w+ .*// (?:Interface)?Method (?:([\\w$/]+)\\.)?\"?([\\w<>]+)\"?:");
    private static final Set<String> LIBRARY = Set.of("java/lang/Object.<init>", "java/lang/String.length",
            "java/lang/String.charAt", "java/lang/String.indexOf", "java/lang/Math.abs", "java/lang/Math.max",
            "java/lang/Math.min", "java/lang/Integer.bitCount", "java/lang/Integer.numberOfTrailingZeros",
            "java/lang/System.arraycopy");
    private static final List<String> BANNED = List.of("athrow", "invokedynamic", "monitorenter", "checkcast",
            "instanceof", "Exception table:", "double", "float", " dadd", " fadd", "putstatic");
    private static final int DEEPEST = 8;

    private final Map<String, Set<String>> calls = new TreeMap<>();
    private final Map<String, List<String>> code = new TreeMap<>();

    public static void main(String[] args) throws IOException {
        FormTest form = new FormTest();
        form.read();
        form.library();
        form.bannedSteps();
        form.makes();
        form.recursion();
        form.depth();
        parserFindsFaults();
        Due.done();
    }

    private void read() throws IOException {
        List<String> files = new ArrayList<>();
        files.add("-c");
        files.add("-p");
        try (Stream<Path> paths = Files.list(Path.of("build/main"))) {
            paths.map(Path::toString).filter(name -> name.endsWith(".class")).sorted().forEach(files::add);
        }
        Due.is("all classes are there", files.size() > 10, true);
        StringWriter told = new StringWriter();
        ToolProvider javap = ToolProvider.findFirst("javap").orElseThrow();
        PrintWriter out = new PrintWriter(told);
        Due.is("javap", javap.run(out, out, files.toArray(new String[0])), 0);
        out.flush();
        readTold(told.toString());
    }

    // Constructors are kept as <init>; methods of one name in one class as one.
    private void readTold(String told) {
        String type = "";
        String method = "";
        for (String line : told.split("\n")) {
            Matcher opens = OPENS.matcher(line);
            if (line.contains("class ") && line.endsWith("{")) {
                type = line.replaceAll(".*class ([\\w$]+).*", "$1");
            } else if (opens.matches()) {
                String name = opens.group(1).equals(type) ? "<init>" : opens.group(1);
                method = type + "." + name;
                code.computeIfAbsent(method, key -> new ArrayList<>());
                calls.computeIfAbsent(method, key -> new TreeSet<>());
            } else if (line.strip().startsWith("static {}")) {
                method = type + ".<clinit>";
                code.put(method, new ArrayList<>());
                calls.put(method, new TreeSet<>());
            } else if (!method.isEmpty()) {
                code.get(method).add(line);
                Matcher call = CALLS.matcher(line);
                if (call.find()) {
                    String owner = call.group(1) == null ? type : call.group(1);
                    calls.get(method).add(owner + "." + call.group(2));
                }
            }
        }
        Due.is("methods are found", calls.size() > 100, true);
    }

    // Rule 4.
    private void library() {
        for (Map.Entry<String, Set<String>> entry : calls.entrySet()) {
            for (String called : entry.getValue()) {
                boolean own = calls.containsKey(called);
                Due.is(entry.getKey() + " calls " + called, own || LIBRARY.contains(called), true);
            }
        }
    }

    // Rules 2, 3, 5, 6; a static row is put in place by the initialiser that is written out with it.
    private void bannedSteps() {
        for (Map.Entry<String, List<String>> entry : code.entrySet()) {
            for (String line : entry.getValue()) {
                for (String banned : BANNED) {
                    boolean row = banned.equals("putstatic") && entry.getKey().endsWith(".<clinit>");
                    Due.is(entry.getKey() + ": " + line.strip(), line.contains(banned) && !row, false);
                }
            }
        }
    }

    // All calls of one run live in one room: what is made is made with the object, nothing by a call.
    private void makes() {
        Pattern makes = Pattern.compile("\\b(new|newarray|anewarray|multianewarray)\\b");
        for (Map.Entry<String, List<String>> entry : code.entrySet()) {
            boolean first = entry.getKey().endsWith("<init>") || entry.getKey().endsWith("<clinit>");
            for (String line : entry.getValue()) {
                boolean found = makes.matcher(line.replaceAll("//.*", "")).find();
                Due.is(entry.getKey() + " makes nothing: " + line.strip(), found && !first, false);
            }
        }
    }

    // Rule 8: B and C alone call one another, and carry their depth.
    private void recursion() {
        Set<String> due = Set.of("ClayHouse$Rules.readWhen", "ClayHouse$Rules.readCondition");
        for (String method : calls.keySet()) {
            Due.is("recursion of " + method, reaches(method, method, new TreeSet<>()), due.contains(method));
        }
    }

    private boolean reaches(String from, String goal, Set<String> seen) {
        for (String next : calls.getOrDefault(from, Set.of())) {
            if (next.equals(goal) || seen.add(next) && reaches(next, goal, seen)) {
                return true;
            }
        }
        return false;
    }

    // Rule 11: a way through methods that does not come back to one of them.
    private void depth() {
        int deepest = 0;
        for (String method : calls.keySet()) {
            deepest = Math.max(deepest, depthFrom(method, new ArrayList<>()));
        }
        Due.is("calls go " + deepest + " deep", deepest <= DEEPEST, true);
    }

    private int depthFrom(String method, List<String> open) {
        if (open.contains(method) || !calls.containsKey(method)) {
            return 0;
        }
        open.add(method);
        List<Integer> depths = new ArrayList<>(List.of(0));
        for (String next : calls.get(method)) {
            depths.add(depthFrom(next, open));
        }
        open.remove(method);
        return 1 + Collections.max(depths);
    }

    // What would stand in a listing that is against the rules is seen by what looks for it.
    private static void parserFindsFaults() {
        Matcher call = CALLS.matcher("   9: invokevirtual #3   // Method java/util/HashMap.get:(Ljava/lang/Object;)");
        Due.is("a call of another library", call.find() && !LIBRARY.contains(call.group(1) + "." + call.group(2)), true);
        Matcher own = CALLS.matcher("   9: invokestatic  #3   // Method within:(III)Z");
        Due.is("a call of one's own", own.find() && own.group(1) == null && own.group(2).equals("within"), true);
        Matcher opens = OPENS.matcher("  private static boolean within(int, int, int);");
        Due.is("a method", opens.matches() && opens.group(1).equals("within"), true);
    }
}
