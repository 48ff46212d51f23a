import java.io.IOException;
import java.lang.reflect.Field;
import java.lang.reflect.Method;
import java.lang.reflect.Modifier;
import java.net.URL;
import java.net.URLClassLoader;
import java.nio.file.Files;
import java.nio.file.Path;
import java.util.ArrayList;
import java.util.List;
import java.util.regex.Matcher;
import java.util.regex.Pattern;
import javax.tools.ToolProvider;

/** README.md tells the truth: its example is run, and it leaves out no call, no refusal and no test. */
public final class ReadmeTest {
    private static final Pattern ASKED = Pattern.compile("(x\\.\\w+\\(.*?\\));\\s*// (-?\\d+|[A-Z]+)\\b.*");

    private ReadmeTest() {
    }

    public static void main(String[] args) throws IOException, ReflectiveOperationException {
        String text = Files.readString(Path.of("README.md"));
        Due.sentence("README.md");
        example(text);
        everyName(text);
        everyTest(text);
        Due.end();
    }

    /** Each line of the example that tells an answer: the call, what it answered, and what is told. */
    private static void example(String text) throws IOException, ReflectiveOperationException {
        Matcher block = Pattern.compile("(?s)```java\n(.*?)```").matcher(text);
        Due.holds("there is an example", block.find());
        List<String> calls = new ArrayList<>();
        StringBuilder program = new StringBuilder("public final class ReadmeExample {\n"
                + "public static void run(java.util.List<Long> answers, java.util.List<Long> told) {\n");
        for (String line : block.group(1).split("\n")) {
            Matcher asked = ASKED.matcher(line.trim());
            if (asked.matches()) {
                calls.add(asked.group(1));
                String due = asked.group(2).matches("[A-Z]+") ? "EntailedLand." + asked.group(2) : asked.group(2);
                program.append("answers.add((long) ").append(asked.group(1)).append(");\n");
                program.append("told.add((long) (").append(due).append("));\n");
            } else {
                program.append(line).append('\n');
            }
        }
        program.append("}\n}\n");
        List<Long> answers = new ArrayList<>();
        List<Long> told = new ArrayList<>();
        run(program.toString(), answers, told);
        Due.holds("answers are told", calls.size() > 20 && answers.size() == calls.size());
        for (int k = 0; k < answers.size(); k++) {
            Due.is(calls.get(k), answers.get(k), told.get(k));
        }
    }

    private static void run(String program, List<Long> answers, List<Long> told)
            throws IOException, ReflectiveOperationException {
        Path folder = Files.createTempDirectory("readme");
        Path file = folder.resolve("ReadmeExample.java");
        Path made = folder.resolve("ReadmeExample.class");
        Files.writeString(file, program);
        int code = ToolProvider.getSystemJavaCompiler().run(null, null, null, "-proc:none", "-cp",
                System.getProperty("java.class.path"), "-d", folder.toString(), file.toString());
        Due.is("the example is compiled", code, 0);
        if (code == 0) {
            try (URLClassLoader loader = new URLClassLoader(new URL[] {folder.toUri().toURL()})) {
                loader.loadClass("ReadmeExample").getMethod("run", List.class, List.class).invoke(null, answers, told);
            }
        }
        Files.deleteIfExists(made);
        Files.deleteIfExists(file);
        Files.deleteIfExists(folder);
    }

    private static void everyName(String text) throws IllegalAccessException {
        for (Method m : EntailedLand.class.getDeclaredMethods()) {
            if (Modifier.isPublic(m.getModifiers())) {
                Due.holds("it tells of " + m.getName(), text.matches("(?s).*`" + m.getName() + "\\([^`]*\\)`.*"));
            }
        }
        for (Field f : EntailedLand.class.getDeclaredFields()) {
            if (Modifier.isPublic(f.getModifiers())) {
                Due.holds("it tells of " + f.getName(), text.contains("| `" + f.getName() + "` | " + f.getInt(null) + " |"));
            }
        }
    }

    private static void everyTest(String text) throws IOException {
        try (var files = Files.list(Path.of("src/test/java"))) {
            for (Path file : (Iterable<Path>) files::iterator) {
                String name = file.getFileName().toString().replace(".java", "");
                Due.holds("it tells of " + name, text.contains("`" + name + "`"));
            }
        }
    }
}
