import java.io.IOException;
import java.net.URL;
import java.net.URLClassLoader;
import java.nio.file.Files;
import java.nio.file.Path;
import java.util.ArrayList;
import java.util.List;
import java.util.Set;
import java.util.TreeSet;
import java.util.regex.Matcher;
import java.util.regex.Pattern;

/**
 * Tests that README.md says how the class is used: its examples are compiled and run, each answer that it tells is the
 * one that the call gives, and each call of the face is among them. It is run from the project's folder.
 */
public final class ReadmeTest {
    // In the order of their promises, the first of which is the new object's.
    private static final List<String> CALLS = List.of("new", "colour", "type", "apply", "plates", "drift", "correct",
        "key", "tear", "job", "print", "sign", "differs", "claim", "ink", "dot", "unit", "copy", "next", "all");
    // A call, and behind "//" its answer or what it throws, and behind ":" why.
    private static final Pattern EXAMPLE =
        Pattern.compile("\\s*(house\\.(\\w+)\\(.*\\)); +// (throws \\w+|[\\w.-]+)(: .*)?");
    private static final Pattern MADE = Pattern.compile("GravureHouse house = new GravureHouse\\(\\);");
    private static final Pattern CALLED = Pattern.compile("house\\.(\\w+)\\(");
    private static final String NAME = "ReadmeExamples";

    private ReadmeTest() {
    }

    public static void main(String[] args) throws IOException, InterruptedException, ReflectiveOperationException {
        List<String> page = Files.readAllLines(Path.of("README.md"));
        List<String> examples = examples(page);
        shown(examples);
        told(String.join("\n", page));
        run(program(examples));
        Checks.end(1, 20);
    }

    /** The lines of the page that are Java. */
    private static List<String> examples(List<String> page) {
        List<String> lines = new ArrayList<>();
        boolean within = false;
        for (String line : page) {
            if (line.startsWith("```")) {
                within = line.equals("```java");
            } else if (within) {
                lines.add(line);
            }
        }
        return lines;
    }

    private static void shown(List<String> examples) {
        Set<String> shown = new TreeSet<>();
        for (String line : examples) {
            if (MADE.matcher(line).matches()) {
                shown.add("new");
            }
            Matcher called = CALLED.matcher(line);
            while (called.find()) {
                shown.add(called.group(1));
            }
        }
        for (String call : CALLS) {
            Checks.count(promise(call), "README.md shows the call " + call, shown.contains(call) ? null : "it doesn't");
        }
    }

    private static void told(String page) {
        for (String text : List.of(".ci/run", "at most 512 calls", "IndexOutOfBoundsException",
            "IllegalArgumentException", "IllegalStateException", "NONE")) {
            Checks.count(1, "README.md tells of " + text, page.contains(text) ? null : "it doesn't");
        }
    }

    /** A class that runs the examples, and gives each answer with the one that the page tells to the method answer. */
    private static String program(List<String> examples) {
        StringBuilder text = new StringBuilder("public final class " + NAME + " {\n");
        text.append("public static void run() {\nString got;\n");
        for (String line : examples) {
            Matcher example = EXAMPLE.matcher(line);
            if (!example.matches()) {
                text.append(line).append('\n');
                continue;
            }
            String call = example.group(1);
            String due = example.group(3);
            if (due.startsWith("throws ")) {
                text.append("try { ").append(call).append("; got = \"nothing is thrown\"; }\n");
                text.append("catch (RuntimeException e) { got = \"throws \" + e.getClass().getSimpleName(); }\n");
                due = "\"" + due + "\"";
            } else {
                text.append("got = \"\" + ").append(call).append(";\n");
            }
            text.append("ReadmeTest.answer(\"").append(example.group(2)).append("\", \"").append(quoted(call));
            text.append("\", got, \"\" + (").append(due).append("));\n");
        }
        return text.append("}\n}\n").toString();
    }

    private static String quoted(String call) {
        return call.replace("\\", "\\\\").replace("\"", "\\\"");
    }

    private static void run(String program)
            throws IOException, InterruptedException, ReflectiveOperationException {
        Path folder = Files.createTempDirectory("readme");
        Path source = folder.resolve(NAME + ".java");
        Path compiled = folder.resolve(NAME + ".class");
        try {
            Files.writeString(source, program);
            int exit = new ProcessBuilder("javac", "-cp", System.getProperty("java.class.path"), "-d",
                folder.toString(), source.toString()).inheritIO().start().waitFor();
            Checks.count(1, "the examples of README.md compile", exit == 0 ? null : "they don't");
            if (exit == 0) {
                try (URLClassLoader loader = new URLClassLoader(new URL[] {folder.toUri().toURL()})) {
                    loader.loadClass(NAME).getMethod("run").invoke(null);
                }
            }
        } finally {
            Files.deleteIfExists(source);
            Files.deleteIfExists(compiled);
            Files.deleteIfExists(folder);
        }
    }

    /** Public for the examples alone, which another loader brings. */
    public static void answer(String name, String call, String got, String due) {
        Checks.count(promise(name), "README.md, " + call,
            got.equals(due) ? null : "answered " + got + ", the page tells " + due);
    }

    /** The promise of a call; 1, if there is no such call. */
    private static int promise(String call) {
        return Math.max(CALLS.indexOf(call), 0) + 1;
    }
}
