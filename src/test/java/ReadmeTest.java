import java.lang.reflect.Method;
import java.lang.reflect.Modifier;
import java.net.URL;
import java.net.URLClassLoader;
import java.nio.file.Files;
import java.nio.file.Path;
import java.util.ArrayList;
import java.util.Comparator;
import java.util.List;
import java.util.function.Supplier;
import java.util.regex.Matcher;
import java.util.regex.Pattern;
import java.util.stream.Stream;
import javax.tools.ToolProvider;

/**
 * The examples of README.md, which are one run: a program is made of all its Java, and what it
 * answers is held against the answer behind each call.
 */
public final class ReadmeTest {
    private static final Pattern BLOCK = Pattern.compile("```java\n(.*?)```", Pattern.DOTALL);
    private static final Pattern CALL = Pattern.compile("(x\\.\\w+\\(.*\\));\\s+// (-?\\d+): .+");
    private static final Checks C = new Checks("ReadmeTest");

    private final List<String> calls = new ArrayList<>();
    private final List<Long> due = new ArrayList<>();
    private final StringBuilder methods = new StringBuilder();
    private final StringBuilder run = new StringBuilder();

    private ReadmeTest() {
    }

    public static void main(String[] args) throws Exception {
        String page = Files.readString(Path.of("README.md"));
        ReadmeTest test = new ReadmeTest();
        Matcher blocks = BLOCK.matcher(page);
        while (blocks.find()) {
            test.take(blocks.group(1));
        }
        C.dueTrue("README.md has examples", test.calls.size() > 30);
        test.compare();
        everyCallIsNamed(page);
        everyTestIsNamed(page);
        C.finish();
    }

    /** A block is a method, or calls that go on where those of the block ahead of it ended. */
    private void take(String block) {
        if (block.startsWith("static ")) {
            methods.append(block);
            return;
        }
        for (String line : block.split("\n")) {
            Matcher call = CALL.matcher(line);
            if (call.matches()) {
                run.append("told[").append(calls.size()).append("] = ").append(call.group(1)).append(";\n");
                calls.add(call.group(1));
                due.add(Long.valueOf(call.group(2)));
            } else {
                C.dueTrue("line without an answer: " + line, line.matches("(say\\(|TrainBearers x).*"));
                run.append(line).append('\n');
            }
        }
    }

    private void compare() throws Exception {
        long[] told = answers();
        C.due("calls of README.md that were made", told.length, calls.size());
        for (int i = 0; i < told.length; i++) {
            C.due(calls.get(i), told[i], due.get(i));
        }
    }

    private String program() {
        return "public final class ReadmeRun implements java.util.function.Supplier<long[]> {\n"
            + methods + "public long[] get() {\nlong[] told = new long[" + calls.size() + "];\n"
            + run + "return told;\n}\n}\n";
    }

    private long[] answers() throws Exception {
        Path room = Files.createTempDirectory("readme");
        try {
            Path source = Files.writeString(room.resolve("ReadmeRun.java"), program());
            int failed = ToolProvider.getSystemJavaCompiler().run(null, null, null, "-proc:none",
                "-cp", System.getProperty("java.class.path"), "-d", room.toString(), source.toString());
            return failed == 0 ? answersOf(room) : new long[0];
        } finally {
            empty(room);
        }
    }

    private static long[] answersOf(Path room) throws Exception {
        URL[] where = {room.toUri().toURL()};
        try (URLClassLoader classes = new URLClassLoader(where, ReadmeTest.class.getClassLoader())) {
            Object made = classes.loadClass("ReadmeRun").getDeclaredConstructor().newInstance();
            return made instanceof Supplier<?> s && s.get() instanceof long[] told ? told : new long[0];
        }
    }

    private static void empty(Path room) throws Exception {
        try (Stream<Path> all = Files.walk(room)) {
            for (Path path : all.sorted(Comparator.reverseOrder()).toList()) {
                Files.delete(path);
            }
        }
    }

    private static void everyCallIsNamed(String page) {
        for (Method m : TrainBearers.class.getDeclaredMethods()) {
            Pattern name = Pattern.compile("[.`]" + m.getName() + "[(`]");
            C.dueTrue("README.md names " + m.getName(), !Modifier.isPublic(m.getModifiers()) || name.matcher(page).find());
        }
    }

    private static void everyTestIsNamed(String page) throws Exception {
        try (Stream<Path> tests = Files.list(Path.of("src/test/java"))) {
            for (Path test : tests.toList()) {
                String name = test.getFileName().toString().replace(".java", "");
                C.dueTrue("README.md names " + name, page.contains("`" + name + "`"));
            }
        }
    }
}
