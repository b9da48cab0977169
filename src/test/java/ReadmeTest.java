import java.io.IOException;
import java.lang.reflect.Method;
import java.lang.reflect.Modifier;
import java.net.URL;
import java.net.URLClassLoader;
import java.nio.file.Files;
import java.nio.file.Path;
import java.util.ArrayList;
import java.util.List;
import java.util.regex.Matcher;
import java.util.regex.Pattern;
import java.util.stream.Stream;
import javax.tools.JavaCompiler;
import javax.tools.ToolProvider;

/** What README.md says: its examples are compiled and run, and answer what stands behind each call. */
public final class ReadmeTest {
    private static final Check check = new Check("ReadmeTest");
    private static final Pattern BLOCK = Pattern.compile("(?s)```java\n(.*?)```");
    private static final Pattern CALL = Pattern.compile("^(x\\..*\\));\\s*// (.*)$");
    private static final Pattern ANSWER = Pattern.compile("^(-?\\d+): .*$");

    public static void main(String[] args) throws Exception {
        String text = Files.readString(Path.of("README.md"));
        namesEachCall(text);
        namesEachTest(text);
        runExamples(text);
        check.end();
    }

    private static void namesEachCall(String text) {
        for (Method m : PartedFellows.class.getDeclaredMethods()) {
            if (Modifier.isPublic(m.getModifiers())) {
                check.same("README.md names " + m.getName(), 1, text.contains("`" + m.getName() + "`") ? 1 : 0);
            }
        }
    }

    private static void namesEachTest(String text) throws IOException {
        try (Stream<Path> files = Files.list(Path.of("src/test/java"))) {
            for (Path file : files.toList()) {
                String name = file.getFileName().toString().replace(".java", "");
                if (name.endsWith("Test")) {
                    boolean named = text.contains("`" + name + "`")
                            || name.endsWith("EdgeTest") && text.contains("`*EdgeTest`");
                    check.same("README.md names " + name, 1, named ? 1 : 0);
                }
            }
        }
    }

    private static void runExamples(String text) throws Exception {
        Path out = Files.createTempDirectory("readme");
        Path file = out.resolve("ReadmeExample.java");
        List<String> expected = new ArrayList<>();
        Files.writeString(file, exampleClass(text, expected));
        JavaCompiler javac = ToolProvider.getSystemJavaCompiler();
        String classes = System.getProperty("java.class.path");
        int compiled = javac.run(null, null, null, "-cp", classes, "-d", out.toString(), file.toString());
        check.same("the examples compile", 0, compiled);
        if (compiled == 0) {
            List<String> got = new ArrayList<>();
            try (URLClassLoader loader = new URLClassLoader(new URL[] {out.toUri().toURL()})) {
                loader.loadClass("ReadmeExample").getMethod("run", List.class).invoke(null, got);
            }
            check.same("calls of the examples", expected.size(), got.size());
            for (int i = 0; i < expected.size() && i < got.size(); i++) {
                check.alike("README.md's call " + (i + 1), expected.get(i), got.get(i));
            }
        }
        for (String made : new String[] {"ReadmeExample.class", "ReadmeExample$Call.class", "ReadmeExample.java", ""}) {
            Files.deleteIfExists(out.resolve(made));
        }
    }

    /** A block is either methods, which all examples may use, or statements, which become an example of their own. */
    private static String exampleClass(String text, List<String> expected) {
        StringBuilder methods = new StringBuilder();
        StringBuilder examples = new StringBuilder();
        Matcher block = BLOCK.matcher(text);
        while (block.find()) {
            if (block.group(1).startsWith("/**")) {
                methods.append(block.group(1));
            } else {
                examples.append("{\n").append(statements(block.group(1), expected)).append("}\n");
            }
        }
        check.same("README.md has examples", 1, expected.size() > 10 ? 1 : 0);
        return "import java.util.List;\npublic final class ReadmeExample {\n"
                + "interface Call { long answer(); }\n"
                + "static String say(Call c) { try { return String.valueOf(c.answer()); }\n"
                + "catch (RuntimeException e) { return \"throws \" + e.getClass().getSimpleName(); } }\n"
                + methods + "public static void run(List<String> got) {\n" + examples + "}\n}\n";
    }

    private static String statements(String block, List<String> expected) {
        StringBuilder made = new StringBuilder();
        StringBuilder open = new StringBuilder();
        for (String line : block.split("\n")) {
            open.append(line.trim()).append(' ');
            Matcher call = CALL.matcher(open.toString().trim());
            if (call.matches()) {
                Matcher answer = ANSWER.matcher(call.group(2));
                expected.add(answer.matches() ? answer.group(1) : call.group(2));
                made.append("got.add(say(() -> ").append(call.group(1)).append("));\n");
                open.setLength(0);
            } else if (line.endsWith(";")) {
                made.append(open).append('\n');
                open.setLength(0);
            }
        }
        return made.append(open).toString();
    }
}
