import java.io.ByteArrayOutputStream;
import java.io.PrintStream;
import java.lang.reflect.Method;
import java.lang.reflect.Modifier;
import java.net.URL;
import java.net.URLClassLoader;
import java.nio.charset.StandardCharsets;
import java.nio.file.Files;
import java.nio.file.Path;
import java.util.Set;
import java.util.TreeSet;
import java.util.regex.Matcher;
import java.util.regex.Pattern;
import java.util.stream.Stream;
import javax.tools.ToolProvider;

/** What README.md says is so: its program prints what it says, its tables name all that is there, its files are there. */
public final class ReadmeTest {
    private static int wrong = 0;

    private static void need(boolean good, String what) {
        if (!good) {
            wrong++;
            System.out.println("README.md: " + what);
        }
    }

    /** The fenced block that begins with this sign of a language. */
    private static String block(String page, String language) {
        Matcher m = Pattern.compile("(?s)```" + language + "\n(.*?)```").matcher(page);
        boolean found = m.find();
        need(found, "no block of " + language);
        return found ? m.group(1) : "";
    }

    private static String run(String program) throws Exception {
        Path room = Files.createTempDirectory("readme");
        try {
            Path source = room.resolve("Example.java");
            Files.writeString(source, program);
            int failed = ToolProvider.getSystemJavaCompiler().run(null, null, null,
                    "-cp", System.getProperty("java.class.path"), "-d", room.toString(), source.toString());
            need(failed == 0, "its program does not compile");
            return failed == 0 ? printedBy(room) : "";
        } finally {
            for (String name : new String[] {"Example.class", "Example.java", ""}) Files.deleteIfExists(room.resolve(name));
        }
    }

    private static String printedBy(Path room) throws Exception {
        PrintStream usual = System.out;
        ByteArrayOutputStream printed = new ByteArrayOutputStream();
        try (URLClassLoader loader = new URLClassLoader(new URL[] {room.toUri().toURL()})) {
            System.setOut(new PrintStream(printed, true, StandardCharsets.UTF_8));
            loader.loadClass("Example").getMethod("main", String[].class).invoke(null, (Object) new String[0]);
        } finally {
            System.setOut(usual);
        }
        return printed.toString(StandardCharsets.UTF_8).replace(System.lineSeparator(), "\n");
    }

    /** All words of the first pattern's group that stand in the part of the page from one line up to another. */
    private static Set<String> words(String page, String from, String to, String pattern) {
        int begin = page.indexOf(from);
        int end = page.indexOf(to, begin + 1);
        need(begin >= 0 && end > begin, "no part from \"" + from + "\" to \"" + to + "\"");
        Set<String> words = new TreeSet<>();
        Matcher m = Pattern.compile(pattern).matcher(begin >= 0 && end > begin ? page.substring(begin, end) : "");
        while (m.find()) words.add(m.group(1));
        return words;
    }

    private static void checkTables(String page) throws Exception {
        Set<String> calls = new TreeSet<>();
        for (Method m : CutFloor.class.getDeclaredMethods()) {
            if (Modifier.isPublic(m.getModifiers())) calls.add(m.getName());
        }
        Set<String> named = words(page, "| for | calls |", "What to know:", "`([a-z]+)`");
        need(named.equals(calls), "its table names the calls " + named + ", there are " + calls);
        Set<String> tests = new TreeSet<>();
        try (Stream<Path> files = Files.list(Path.of("src/test/java"))) {
            files.map(f -> f.getFileName().toString()).filter(f -> f.endsWith("Test.java"))
                    .forEach(f -> tests.add(f.substring(0, f.length() - 5)));
        }
        Set<String> told = words(page, "| test | what it asks |", "One test by itself", "`(\\w+Test)`");
        need(told.equals(tests), "its table names the tests " + told + ", there are " + tests);
    }

    private static void checkFiles(String page) {
        Set<String> files = words(page + "\n\f", "# CutFloor", "\n\f", "`((?:\\.\\./|src/)?[\\w./]+\\.(?:md|java))`");
        need(files.size() >= 4, "it names the files " + files);
        for (String file : files) need(Files.exists(Path.of(file)), "no file " + file);
        need(page.contains("    .ci/run\n") && Files.isExecutable(Path.of(".ci/run")), "no .ci/run that can be run");
    }

    public static void main(String[] args) throws Exception {
        String page = Files.readString(Path.of("README.md"));
        String due = block(page, "text");
        String printed = run(block(page, "java"));
        need(printed.equals(due), "its program prints\n" + printed);
        need(due.split("\n").length == 6, "its program should print six lines");
        checkTables(page);
        checkFiles(page);
        System.out.println(wrong == 0 ? "the README holds" : wrong + " things in the README do not hold");
        if (wrong != 0) System.exit(1);
    }
}
