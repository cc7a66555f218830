import java.io.ByteArrayOutputStream;
import java.io.IOException;
import java.io.PrintStream;
import java.lang.reflect.Method;
import java.lang.reflect.Modifier;
import java.net.URL;
import java.net.URLClassLoader;
import java.nio.charset.StandardCharsets;
import java.nio.file.Files;
import java.nio.file.Path;
import java.util.ArrayList;
import java.util.Arrays;
import java.util.Comparator;
import java.util.List;
import java.util.regex.Matcher;
import java.util.regex.Pattern;
import java.util.stream.Stream;
import javax.tools.JavaCompiler;
import javax.tools.ToolProvider;

/**
 * What README.md tells: its program prints what stands there, each call of the class has one row with as
 * many numbers as it takes, and each range that a row tells is the one that the class keeps to.
 */
public final class ReadmeTest {
    private static final Checks CHECKS = new Checks("readme");
    private static final Pattern ROW = Pattern.compile("\\| `(\\w+)\\(([^)]*)\\)` \\| (.*) \\| (.*)\\|");
    private static final Pattern RANGES = Pattern.compile("((?:\\w+ or )?\\w+) not (-?\\d+) to (\\d+)");

    private ReadmeTest() {
    }

    public static void main(String[] args) throws Exception {
        String page = Files.readString(Path.of("README.md"));
        testProgram(page);
        testRows(page);
        testRanges(page);
        testRest(page);
        CHECKS.close();
    }

    private static void testProgram(String page) throws Exception {
        String printed = run("Evening", blockOf(page, "java"));
        CHECKS.yes("the program prints what the page says, not: " + printed, printed.equals(blockOf(page, "text")));
    }

    /** The lines of the page's first block of that kind. */
    private static String blockOf(String page, String kind) {
        String opens = "```" + kind + "\n";
        int from = page.indexOf(opens);
        int to = from < 0 ? -1 : page.indexOf("```", from + opens.length());
        CHECKS.yes("the page has a block of " + kind, to > 0);
        return to > 0 ? page.substring(from + opens.length(), to) : "";
    }

    /** What a program prints that is compiled against the class. */
    private static String run(String name, String program) throws Exception {
        Path folder = Files.createTempDirectory("readme");
        try {
            Path file = folder.resolve(name + ".java");
            Files.writeString(file, program);
            JavaCompiler compiler = ToolProvider.getSystemJavaCompiler();
            String own = System.getProperty("java.class.path");
            int failed = compiler.run(null, null, null, "-cp", own, "-d", folder.toString(), file.toString());
            CHECKS.due("compiling the page's program", failed, 0);
            return failed == 0 ? printedBy(folder, name) : "";
        } finally {
            remove(folder);
        }
    }

    private static String printedBy(Path folder, String name) throws Exception {
        PrintStream before = System.out;
        ByteArrayOutputStream printed = new ByteArrayOutputStream();
        try (URLClassLoader loader = new URLClassLoader(new URL[] {folder.toUri().toURL()});
                PrintStream there = new PrintStream(printed, true, StandardCharsets.UTF_8)) {
            System.setOut(there);
            loader.loadClass(name).getMethod("main", String[].class).invoke(null, (Object) new String[0]);
        } finally {
            System.setOut(before);
        }
        return printed.toString(StandardCharsets.UTF_8).replace(System.lineSeparator(), "\n");
    }

    private static void remove(Path folder) throws IOException {
        try (Stream<Path> all = Files.walk(folder)) {
            for (Path path : all.sorted(Comparator.reverseOrder()).toList()) {
                Files.delete(path);
            }
        }
    }

    private static void testRows(String page) {
        List<String> told = new ArrayList<>();
        for (String line : page.split("\n")) {
            Matcher row = ROW.matcher(line);
            if (row.matches()) {
                told.add(row.group(1) + " of " + namesIn(row.group(2)).size());
            }
        }
        List<String> calls = new ArrayList<>();
        for (Method method : DarkStreet.class.getDeclaredMethods()) {
            if (Modifier.isPublic(method.getModifiers())) {
                calls.add(method.getName() + " of " + method.getParameterCount());
            }
        }
        told.sort(null);
        calls.sort(null);
        CHECKS.due("calls of the class", calls.size(), 44);
        CHECKS.yes("each call has its row: " + told + " for " + calls, told.equals(calls));
    }

    private static List<String> namesIn(String numbers) {
        return numbers.isEmpty() ? List.of() : List.of(numbers.split(", "));
    }

    /** What is refused by the page is refused by the class, and what lies just within is not. */
    private static void testRanges(String page) {
        int ranges = 0;
        for (String line : page.split("\n")) {
            Matcher row = ROW.matcher(line);
            // The van may say NONE, which is beside its range.
            if (row.matches() && !row.group(1).equals("say")) {
                List<String> names = namesIn(row.group(2));
                Matcher range = RANGES.matcher(row.group(4));
                while (range.find()) {
                    int least = Integer.parseInt(range.group(2));
                    int most = Integer.parseInt(range.group(3));
                    for (String name : range.group(1).split(" or ")) {
                        ranges++;
                        int place = names.indexOf(name);
                        CHECKS.yes(line + " tells of " + name, place >= 0);
                        tryRange(row.group(1), place, least, most);
                    }
                }
            }
        }
        CHECKS.due("ranges that the page tells", ranges, 33);
    }

    private static void tryRange(String call, int place, int least, int most) {
        int[] each = {least - 1, least, most, most + 1};
        for (int i = 0; i < each.length && place >= 0; i++) {
            int[] a = usual(call);
            a[place] = each[i];
            boolean due = i == 1 || i == 2;
            CHECKS.due(call + Arrays.toString(a) + " is heard", isHeard(call, a) ? 1 : 0, due ? 1 : 0);
        }
    }

    /** Whether a street of three houses hears a call, rather than to refuse it. */
    private static boolean isHeard(String call, int[] a) {
        DarkStreet x = new DarkStreet();
        for (int h = 0; h < 3; h++) {
            x.house(h, 0, 1);
        }
        Checks.rule(x, "give 1");
        for (int k = 0; k < 4; k++) {
            x.image(k);
        }
        x.turner(0, 1, 0, 0);
        long got = Calls.answer(x, call, a);
        long refusal = call.equals("turner") ? 0 : call.equals("lost") ? -1000000000000L : DarkStreet.NONE;
        return got != refusal;
    }

    /** Numbers that a call takes. */
    private static int[] usual(String call) {
        switch (call) {
            case "need": return new int[] {0, 0, 1, 1, 0, 95, 0};
            case "maker": return new int[] {0, 0, 1, 1, 1, 1};
            case "rows": return new int[] {1, -1};
            default: return new int[] {0, 1, 1, 1};
        }
    }

    private static void testRest(String page) {
        CHECKS.yes("how a street is made", page.contains("`new DarkStreet()`"));
        CHECKS.yes("what NONE is", page.contains("`DarkStreet.NONE` is " + DarkStreet.NONE));
        CHECKS.yes("by which command the tests are run", page.contains("\n    .ci/run\n"));
        try (Stream<Path> tests = Files.list(Path.of("src/test/java"))) {
            for (Path test : tests.toList()) {
                String name = test.getFileName().toString().replace(".java", "");
                CHECKS.yes("the page tells of " + name, !name.endsWith("Test") || page.contains("`" + name + "`"));
            }
        } catch (IOException none) {
            CHECKS.yes("the tests lie where the page says", false);
        }
    }
}
