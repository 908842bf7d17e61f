import java.io.ByteArrayOutputStream;
import java.io.File;
import java.io.IOException;
import java.io.PrintStream;
import java.lang.reflect.Method;
import java.lang.reflect.Modifier;
import java.net.URL;
import java.net.URLClassLoader;
import java.nio.charset.StandardCharsets;
import java.nio.file.Files;
import java.nio.file.Path;
import java.util.ArrayList;
import java.util.List;
import java.util.Set;
import java.util.TreeSet;
import java.util.regex.Matcher;
import java.util.regex.Pattern;
import javax.tools.JavaCompiler;
import javax.tools.ToolProvider;

/**
 * README.md's example compiles and does what README.md says of it, and README.md names every call, exception, limit and
 * test; it is run from the project's folder.
 */
public final class ReadmeTest {
    private static final Check CHECK = new Check("ReadmeTest");
    private static final int CALL_LIMIT = 512;
    private static final List<HoleTemplates> OBJECTS = new ArrayList<>();
    private static final List<Integer> CALLS = new ArrayList<>();

    public static void main(String[] args) throws Exception {
        String readme = Files.readString(Path.of("README.md"));
        example(readme);
        face(readme);
        limits(readme);
        tests(readme);
        CHECK.end();
    }

    /** All Java that stands in README.md is the one example, so that none of it goes untested. */
    private static void example(String readme) throws Exception {
        List<String> sources = found(readme, "(?s)```java\n(.*?)```");
        List<String> outputs = found(readme, "(?s)```text\n(.*?)```");
        CHECK.same("blocks of Java", 1, sources.size());
        CHECK.same("blocks of what it prints", 1, outputs.size());
        if (sources.size() == 1 && outputs.size() == 1) {
            CHECK.same("what the example prints", outputs.get(0), printed(sources.get(0)));
            CHECK.same("what it prints while its calls are counted", outputs.get(0), printed(counting(sources.get(0))));
            countedCalls(readme);
        }
    }

    /** The example, with each of its calls noted before it is made. */
    private static String counting(String source) {
        String names = String.join("|", new TreeSet<>(found(source, "\\bHoleTemplates (\\w+)")));
        return source.replaceAll("\\b(" + names + ")\\.(?=\\w+\\()", "ReadmeTest.noted($1).");
    }

    /** Public, since the example is loaded by another loader. */
    public static HoleTemplates noted(HoleTemplates x) {
        int at = 0;
        while (at < OBJECTS.size() && OBJECTS.get(at) != x) {
            at++;
        }
        if (at == OBJECTS.size()) {
            OBJECTS.add(x);
            CALLS.add(0);
        }
        CALLS.set(at, CALLS.get(at) + 1);
        return x;
    }

    private static void countedCalls(String readme) {
        Matcher said = Pattern.compile("It makes (\\d+) calls of the first object and (\\d+) of the second\\.").matcher(readme);
        boolean found = said.find();
        CHECK.same("README.md says how many calls the example makes", true, found);
        if (found) {
            List<Integer> due = List.of(Integer.valueOf(said.group(1)), Integer.valueOf(said.group(2)));
            CHECK.same("the example's calls", due, CALLS);
        }
        for (int calls : CALLS) {
            CHECK.same("calls within the limit", true, calls <= CALL_LIMIT);
        }
    }

    private static String printed(String source) throws Exception {
        Path folder = Files.createTempDirectory("readme");
        PrintStream before = System.out;
        ByteArrayOutputStream bytes = new ByteArrayOutputStream();
        try {
            if (!compiles(folder, source)) {
                return "it does not compile";
            }
            System.setOut(new PrintStream(bytes, true, StandardCharsets.US_ASCII));
            runMain(folder);
        } catch (ReflectiveOperationException e) {
            return "it does not end: " + e + ", " + e.getCause();
        } finally {
            System.setOut(before);
            takeAway(folder);
        }
        return bytes.toString(StandardCharsets.US_ASCII).replace(System.lineSeparator(), "\n");
    }

    private static boolean compiles(Path folder, String source) throws IOException {
        Path file = Files.writeString(folder.resolve("Example.java"), source);
        JavaCompiler javac = ToolProvider.getSystemJavaCompiler();
        return javac != null && javac.run(null, null, null, "-Xlint:all", "-Werror", "-cp",
            System.getProperty("java.class.path"), "-d", folder.toString(), file.toString()) == 0;
    }

    private static void runMain(Path folder) throws Exception {
        URL[] places = {folder.toUri().toURL()};
        try (URLClassLoader loader = new URLClassLoader(places, ReadmeTest.class.getClassLoader())) {
            loader.loadClass("Example").getMethod("main", String[].class).invoke(null, (Object) new String[0]);
        }
    }

    private static void takeAway(Path folder) throws IOException {
        File[] files = folder.toFile().listFiles();
        for (File file : files == null ? new File[0] : files) {
            Files.delete(file.toPath());
        }
        Files.delete(folder);
    }

    /** Each call is told, and the table of exceptions has those of the face and no others. */
    private static void face(String readme) {
        Set<String> due = new TreeSet<>();
        for (Method m : HoleTemplates.class.getDeclaredMethods()) {
            if (Modifier.isPublic(m.getModifiers())) {
                CHECK.same("README.md tells " + m.getName(), true, readme.contains("\n- `" + m.getName() + "(")
                    || readme.contains(" and `" + m.getName() + "("));
                for (Class<?> thrown : m.getExceptionTypes()) {
                    due.add(thrown.getSimpleName() + " of " + m.getName());
                }
            }
        }
        Set<String> told = new TreeSet<>();
        Matcher row = Pattern.compile("(?m)^\\| `(\\w+Exception)` \\| ([^|]*) \\|").matcher(readme);
        while (row.find()) {
            for (String call : found(row.group(2), "`(\\w+)\\(")) {
                told.add(row.group(1) + " of " + call);
            }
        }
        CHECK.same("exceptions", due, told);
    }

    private static void limits(String readme) {
        List<String> due = List.of("characters of the row 40", "characters of the template 240",
            "choices and loops open at a time 6", "items of a variable 4", "characters of an item 40",
            "characters of the writing 1000", "calls of one object 512");
        List<String> told = new ArrayList<>();
        Matcher row = Pattern.compile("(?m)^\\| ([a-z ]+) \\| (\\d+)(?:, [a-z ]+)? \\|").matcher(readme);
        while (row.find()) {
            told.add(row.group(1) + " " + row.group(2));
        }
        CHECK.same("limits", due, told);
    }

    private static void tests(String readme) {
        Set<String> there = new TreeSet<>();
        String[] files = new File("src/test/java").list();
        for (String file : files == null ? new String[0] : files) {
            if (file.endsWith("Test.java")) {
                there.add(file.replace(".java", ""));
            }
        }
        CHECK.same("tests", there, new TreeSet<>(found(readme, "(?m)^\\| (\\w+Test) \\|")));
        CHECK.same("the command is told", true, readme.contains("\n\n    .ci/run\n\n"));
        CHECK.same("the command can be run", true, Files.isExecutable(Path.of(".ci/run")));
    }

    private static List<String> found(String text, String pattern) {
        List<String> all = new ArrayList<>();
        Matcher m = Pattern.compile(pattern).matcher(text);
        while (m.find()) {
            all.add(m.group(1));
        }
        return all;
    }
}
