import java.io.IOException;
import java.lang.reflect.Field;
import java.lang.reflect.Method;
import java.lang.reflect.Modifier;
import java.nio.file.Files;
import java.nio.file.Path;
import java.util.ArrayList;
import java.util.List;
import java.util.regex.Matcher;
import java.util.regex.Pattern;

/** Tests that the class keeps to those rules of LANGUAGE.md that can be seen in its lines or by reflection. */
public final class LanguageTest {
    private static final Pattern LOOP = Pattern.compile("( *)(?:for|while|do)\\b.*");
    private static final Pattern OVER_ARRAY = Pattern.compile(" *for \\(\\w+ \\w+ : [\\w.]+\\) \\{");
    private static final Pattern COUNTED =
        Pattern.compile(" *for \\(int (\\w+) = [^;]+; \\1 <=? [^;]+; \\1\\+\\+\\) \\{");
    private static final Pattern WHILE = Pattern.compile(" *while \\((\\w+) < [A-Z_]+ .*\\) \\{");

    private LanguageTest() {
    }

    public static void main(String[] args) throws IOException {
        List<String> lines = Files.readAllLines(Path.of("src/main/java/GravureHouse.java"));
        words(lines);
        loops(lines);
        methods(lines);
        List<Class<?>> classes = new ArrayList<>(List.of(GravureHouse.class.getDeclaredClasses()));
        classes.add(GravureHouse.class);
        check(1, 11, "some twelve classes: " + classes.size(), classes.size() <= 12);
        for (Class<?> one : classes) {
            members(one);
        }
        Checks.end(1, 1);
    }

    /** What no line of the class may hold; what stands in its comments is no code. */
    private static void words(List<String> lines) {
        String[][] words = {{"1", "package "}, {"4", "import "}, {"2", "->"}, {"2", "::"}, {"5", "static {"},
            {"6", "finally"}, {"6", "synchronized"}, {"6", "assert "}, {"6", "catch ("}, {"4", "Exact("},
            {"10", "\" + "}, {"10", " + \""}, {"13", "System."}, {"4", "java."}};
        for (String[] word : words) {
            String found = null;
            for (String line : lines) {
                boolean comment = line.trim().startsWith("//") || line.trim().startsWith("/*");
                found = !comment && line.contains(word[1]) ? line.trim() : found;
            }
            check(1, Integer.parseInt(word[0]), word[1] + " stands in: " + found, found == null);
        }
    }

    /** The end of a loop is seen from its own lines: it goes over an array, or has a counter that goes up by 1. */
    private static void loops(List<String> lines) {
        String inside = "";
        for (int at = 0; at < lines.size(); at++) {
            String line = lines.get(at);
            inside = line.matches("    (static final class|enum) .*") ? line : inside;
            if (LOOP.matcher(line).matches()) {
                // The rules are those of promise 4.
                check(inside.contains("Script") ? 4 : 1, 9, "line " + (at + 1) + ": " + line.trim(),
                    hasEnd(lines, at));
            }
        }
    }

    private static boolean hasEnd(List<String> lines, int at) {
        String line = lines.get(at);
        if (OVER_ARRAY.matcher(line).matches()) {
            return true;
        }
        Matcher counted = COUNTED.matcher(line);
        if (counted.matches()) {
            return !assigns(lines, at, counted.group(1));
        }
        Matcher loop = WHILE.matcher(line);
        return loop.matches() && lines.get(at + 1).trim().equals(loop.group(1) + "++;")
            && lines.get(at + 2).trim().equals("}");
    }

    /** Whether a line of the loop's block changes the counter. */
    private static boolean assigns(List<String> lines, int at, String counter) {
        String end = lines.get(at).replaceAll("\\S.*", "") + "}";
        for (int i = at + 1; i < lines.size() && !lines.get(i).equals(end); i++) {
            if (lines.get(i).matches(".*\\b" + counter + "( [-+*/]?= |\\+\\+|--).*")) {
                return true;
            }
        }
        return false;
    }

    /** Methods stay short: from a line that opens one to the line that closes it. */
    private static void methods(List<String> lines) {
        int longest = 0;
        int begin = 0;
        for (int at = 0; at < lines.size(); at++) {
            String line = lines.get(at);
            if (line.matches("(    |        )\\w.*\\(.*") && !line.contains(" = ") && !line.endsWith(";")) {
                begin = at;
            }
            if (line.equals("    }") || line.equals("        }")) {
                longest = Math.max(longest, at - begin + 1);
                begin = at + 1;
            }
        }
        check(1, 11, "some sixty lines: " + longest, longest > 0 && longest <= 60);
    }

    private static void members(Class<?> one) {
        int fields = 0;
        for (Field field : one.getDeclaredFields()) {
            if (!Modifier.isStatic(field.getModifiers())) {
                fields++;
                check(1, 1, field + " is private", Modifier.isPrivate(field.getModifiers()));
            }
        }
        check(1, 11, "some twenty fields of " + one + ": " + fields, fields <= 20);
        for (Method method : one.getDeclaredMethods()) {
            check(1, 11, "at most seven parameters: " + method, method.getParameterCount() <= 7);
        }
    }

    private static void check(int promise, int rule, String what, boolean holds) {
        Checks.count(promise, "LANGUAGE.md, rule " + rule, holds ? null : "does not hold: " + what);
    }
}
