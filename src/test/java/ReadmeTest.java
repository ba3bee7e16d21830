import java.io.IOException;
import java.lang.reflect.Method;
import java.lang.reflect.Modifier;
import java.net.URL;
import java.net.URLClassLoader;
import java.nio.file.Files;
import java.nio.file.Path;
import java.util.ArrayList;
import java.util.Comparator;
import java.util.List;
import java.util.Set;
import java.util.TreeSet;
import java.util.function.ObjIntConsumer;
import java.util.regex.Matcher;
import java.util.regex.Pattern;
import java.util.stream.Stream;
import javax.tools.ToolProvider;

/**
 * README.md at its word: its Java is compiled as it stands there, all of it as one run, and each call that it shows
 * must answer what stands behind it. Every call of the face must be shown, and every test of the project be named.
 */
public final class ReadmeTest {
    private static final int MOST_CALLS = 512;
    private static final Pattern JAVA = Pattern.compile("(?ms)^```java\n(.*?)^```$");
    private static final Pattern SHOWN = Pattern.compile("(x\\.(\\w+)\\(.*?\\)); +// (-?\\d+|[A-Z]+)(:.*)?");
    /** The one call without an answer: it is made for each byte of a text. */
    private static final String UNANSWERED = "x.feed(text.charAt(i));";

    private final Check check = new Check();
    private final StringBuilder source = new StringBuilder();
    private final List<String> calls = new ArrayList<>();
    private final List<Integer> answers = new ArrayList<>();
    private final Set<String> names = new TreeSet<>();
    private int made;

    public static void main(String[] args) throws Exception {
        ReadmeTest test = new ReadmeTest();
        String page = Files.readString(Path.of("README.md"));
        test.collect(page);
        test.playAll();
        test.everyCallIsShown();
        test.everyTestIsNamed(page);
        test.refusalsAreTheProgramsOwn(page);
        test.check.end();
    }

    private void right(String told, boolean is) {
        check.due(told, is ? 1 : 0, 1);
    }

    private void collect(String page) throws ReflectiveOperationException {
        source.append("public final class ReadmeCalls {\n");
        source.append("public static void play(java.util.function.ObjIntConsumer<String> due) {\n");
        Matcher block = JAVA.matcher(page);
        while (block.find()) {
            for (String line : block.group(1).split("\n")) {
                take(line.trim());
            }
        }
        source.append("}\n}\n");
    }

    private void take(String line) throws ReflectiveOperationException {
        Matcher shown = SHOWN.matcher(line);
        if (!shown.matches()) {
            right("an answer stands behind " + line, !line.startsWith("x.") || line.equals(UNANSWERED));
            source.append(line).append('\n');
            return;
        }
        calls.add(shown.group(1));
        names.add(shown.group(2));
        answers.add(number(shown.group(3)));
        source.append("due.accept(\"").append(shown.group(1)).append("\", ").append(shown.group(1)).append(");\n");
    }

    private static int number(String told) throws ReflectiveOperationException {
        return Character.isLetter(told.charAt(0)) ? LastRest.class.getField(told).getInt(null) : Integer.parseInt(told);
    }

    private void playAll() throws Exception {
        Path folder = Files.createTempDirectory("readme");
        try {
            Path file = folder.resolve("ReadmeCalls.java");
            Files.writeString(file, source);
            int failed = ToolProvider.getSystemJavaCompiler().run(null, null, null, "-encoding", "UTF-8",
                    "-cp", System.getProperty("java.class.path"), "-d", folder.toString(), file.toString());
            check.due("how README.md's Java compiles", failed, 0);
            if (failed == 0) {
                play(folder);
            }
        } finally {
            remove(folder);
        }
    }

    private void play(Path folder) throws Exception {
        ObjIntConsumer<String> due = (call, answer) -> {
            check.due("README.md, call " + made + ", " + call, answer, answers.get(made));
            made++;
        };
        try (URLClassLoader loader = new URLClassLoader(new URL[] {folder.toUri().toURL()})) {
            loader.loadClass("ReadmeCalls").getMethod("play", ObjIntConsumer.class).invoke(null, due);
        }
        check.due("how many calls were made", made, calls.size());
        right("README.md uses its object for fewer calls than are promised", made < MOST_CALLS / 2);
    }

    private static void remove(Path folder) throws IOException {
        try (Stream<Path> all = Files.walk(folder)) {
            for (Path path : all.sorted(Comparator.reverseOrder()).toList()) {
                Files.delete(path);
            }
        }
    }

    private void everyCallIsShown() {
        for (Method m : LastRest.class.getDeclaredMethods()) {
            if (Modifier.isPublic(m.getModifiers())) {
                right("README.md shows " + m.getName(), names.contains(m.getName()));
            }
        }
    }

    private void everyTestIsNamed(String page) throws IOException {
        Set<String> named = new TreeSet<>(), there = new TreeSet<>();
        Matcher name = Pattern.compile("`(\\w+Test)`").matcher(page);
        while (name.find()) {
            named.add(name.group(1) + ".java");
        }
        try (Stream<Path> files = Files.list(Path.of("src/test/java"))) {
            files.map(f -> f.getFileName().toString()).filter(f -> f.endsWith("Test.java")).forEach(there::add);
        }
        right("README.md names " + named + ", there are " + there, named.equals(there));
    }

    private void refusalsAreTheProgramsOwn(String page) throws ReflectiveOperationException {
        Set<String> told = new TreeSet<>();
        Matcher refusal = Pattern.compile("(?m)^\\| `(\\w+)` (-\\d+) \\|").matcher(page);
        while (refusal.find()) {
            told.add(refusal.group(1));
            check.due(refusal.group(1) + " in README.md", Integer.parseInt(refusal.group(2)), number(refusal.group(1)));
        }
        right("the refusals of README.md: " + told, told.equals(Set.of("NONE", "BAD", "STATE", "FULL")));
    }
}
