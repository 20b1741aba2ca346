import java.io.IOException;
import java.lang.reflect.Method;
import java.lang.reflect.Modifier;
import java.net.URL;
import java.net.URLClassLoader;
import java.nio.file.Files;
import java.nio.file.Path;
import java.util.ArrayList;
import java.util.List;
import java.util.function.LongConsumer;
import java.util.regex.Matcher;
import java.util.regex.Pattern;
import javax.tools.ToolProvider;

/** README.md names every call, and its examples compile and answer what it says behind them. */
final class ReadmeTest {
    private static final Pattern BLOCK = Pattern.compile("(?s)```java\n(.*?)```");
    private static final Pattern LINE = Pattern.compile("(?:int ring = )?(book\\..*\\)); +// (-?\\d+)(?::.*)?");
    private static final int EXAMPLES = 2;

    public static void main(String[] args) throws Exception {
        String readme = Files.readString(Path.of("README.md"));
        Due due = new Due("ReadmeTest");
        for (Method m : PurseRing.class.getDeclaredMethods()) {
            if (Modifier.isPublic(m.getModifiers())) {
                due.is("calls of " + m.getName() + " in a table of README.md", row(readme, m), 1);
            }
        }
        Matcher block = BLOCK.matcher(readme);
        int examples = 0;
        while (block.find()) {
            play(due, block.group(1), examples++);
        }
        due.is("examples", examples, EXAMPLES);
        due.end();
    }

    /** 1 if a table's row begins with that call, with as many arguments as it has. */
    private static int row(String readme, Method m) {
        String call = m.getName() + "\\(\\w+(, \\w+){" + (m.getParameterCount() - 1) + "}\\)";
        return Pattern.compile("(?m)^\\| (`[^`|]*`, )?`" + call + "`").matcher(readme).find() ? 1 : 0;
    }

    private static void play(Due due, String block, int number) throws Exception {
        List<String> calls = new ArrayList<>();
        List<Long> wanted = new ArrayList<>();
        StringBuilder code = new StringBuilder();
        for (String line : block.split("\n")) {
            Matcher m = LINE.matcher(line);
            if (!m.matches()) {
                due.is("line " + line, line.equals("PurseRing book = new PurseRing();") ? 0 : 1, 0);
                code.append(line).append('\n');
                continue;
            }
            boolean isNew = line.startsWith("int ring = ");
            code.append(isNew ? line.substring(0, line.indexOf(';') + 1) + " out.accept(ring);"
                    : "out.accept(" + m.group(1) + ");").append('\n');
            calls.add(m.group(1));
            wanted.add(Long.parseLong(m.group(2)));
        }
        List<Long> got = answersOf("Example" + number, code.toString());
        due.is("answers of example " + number, got.size(), calls.size());
        for (int i = 0; i < got.size(); i++) {
            due.is("example " + number + ", " + calls.get(i), got.get(i), wanted.get(i));
        }
    }

    private static List<Long> answersOf(String name, String code) throws Exception {
        Path dir = Files.createTempDirectory("readme");
        Path source = dir.resolve(name + ".java");
        Path made = dir.resolve(name + ".class");
        List<Long> answers = new ArrayList<>();
        try {
            Files.writeString(source, "public class " + name
                    + " { public static void play(java.util.function.LongConsumer out) {\n" + code + "} }\n");
            int failed = ToolProvider.getSystemJavaCompiler().run(null, null, null, "-d", dir.toString(),
                    "-cp", System.getProperty("java.class.path"), source.toString());
            if (failed != 0) {
                return answers;
            }
            try (URLClassLoader loader = new URLClassLoader(new URL[] {dir.toUri().toURL()})) {
                loader.loadClass(name).getMethod("play", LongConsumer.class)
                        .invoke(null, (LongConsumer) answers::add);
            }
            return answers;
        } finally {
            remove(source, made, dir);
        }
    }

    private static void remove(Path... paths) throws IOException {
        for (Path p : paths) {
            Files.deleteIfExists(p);
        }
    }
}
