import java.lang.reflect.Method;
import java.lang.reflect.Modifier;
import java.net.URL;
import java.net.URLClassLoader;
import java.nio.charset.StandardCharsets;
import java.nio.file.Files;
import java.nio.file.Path;
import java.util.List;
import java.util.Set;
import java.util.TreeSet;
import java.util.regex.Matcher;
import java.util.regex.Pattern;

/** README.md: its examples answer what it says behind them, and it names every call of the face. */
public final class ReadmeTest {
    private static final Pattern BLOCK = Pattern.compile("(?s)```java\n(.*?)```");
    private static final Pattern ANSWERS = Pattern.compile("(?m)^(x\\.\\w+\\(.*\\));\\s*// = (-?\\d+):.*$");
    private static final Pattern THROWS = Pattern.compile("(?m)^(x\\.\\w+\\(.*\\));\\s*// throws (\\w+):.*$");
    private static final String HEAD = "public final class Examples {\n"
        + "public static final java.util.List<String> WRONG = new java.util.ArrayList<>();\n"
        + "private static void due(String call, long got, long want) {\n"
        + "if (got != want) { WRONG.add(call + \" answered \" + got + \", told is \" + want); } }\n";
    private static final Pattern CALLED = Pattern.compile("`(\\w+)`");

    public static void main(String[] args) throws Exception {
        String readme = Files.readString(Path.of("README.md"), StandardCharsets.UTF_8);
        everyCallIsNamed(readme);
        examples(readme);
        Due.end("ReadmeTest");
    }

    private static void everyCallIsNamed(String readme) {
        Set<String> named = new TreeSet<>();
        Matcher m = CALLED.matcher(readme);
        while (m.find()) {
            named.add(m.group(1));
        }
        for (Method call : WhoeverNamesIt.class.getDeclaredMethods()) {
            if (Modifier.isPublic(call.getModifiers()) && !named.contains(call.getName())) {
                Due.fault("README.md does not name " + call.getName());
            }
        }
    }

    private static void examples(String readme) throws Exception {
        StringBuilder program = new StringBuilder(HEAD);
        int blocks = 0;
        Matcher m = BLOCK.matcher(readme);
        while (m.find()) {
            program.append("public static void example").append(blocks).append("() {\n").append(checked(m.group(1)))
                .append("}\n");
            blocks++;
        }
        Class<?> made = compiled(program.append("}\n").toString());
        for (int i = 0; i < blocks; i++) {
            made.getMethod("example" + i).invoke(null);
        }
        for (Object wrong : (List<?>) made.getField("WRONG").get(null)) {
            Due.fault("README.md: " + wrong);
        }
        Due.due(0, "examples in README.md", blocks, 4);
    }

    /** The example with each told answer turned into a check; a call without one would go unseen, so there is none. */
    private static String checked(String block) {
        String answers = ANSWERS.matcher(block).replaceAll("due(\"$1\", $1, $2L);");
        String all = THROWS.matcher(answers).replaceAll(
            "try { $1; WRONG.add(\"$1 throws nothing\"); } catch (RuntimeException e) {\n"
            + "if (e.getClass() != $2.class) { WRONG.add(\"$1 throws another\"); } }");
        if (Pattern.compile("(?m)^x\\.").matcher(all).find()) {
            Due.fault("a call in README.md is told without its answer:\n" + all);
        }
        return all;
    }

    /** By the javac that .ci/run itself takes. */
    private static Class<?> compiled(String program) throws Exception {
        Path dir = Files.createTempDirectory("examples");
        Path source = dir.resolve("Examples.java");
        Files.writeString(source, program, StandardCharsets.UTF_8);
        int failed = new ProcessBuilder("javac", "-encoding", "UTF-8", "-cp", System.getProperty("java.class.path"),
            "-d", dir.toString(), source.toString()).inheritIO().start().waitFor();
        if (failed != 0) {
            throw new IllegalStateException("the examples of README.md don't compile");
        }
        try (URLClassLoader loader = new URLClassLoader(new URL[] {dir.toUri().toURL()})) {
            return loader.loadClass("Examples");
        } finally {
            Files.delete(dir.resolve("Examples.class"));
            Files.delete(source);
            Files.delete(dir);
        }
    }
}
