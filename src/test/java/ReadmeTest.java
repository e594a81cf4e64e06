import java.io.IOException;
import java.lang.reflect.Method;
import java.lang.reflect.Modifier;
import java.net.URL;
import java.net.URLClassLoader;
import java.nio.file.Files;
import java.nio.file.Path;
import java.util.function.BiConsumer;
import java.util.regex.Matcher;
import java.util.regex.Pattern;
import javax.tools.JavaCompiler;
import javax.tools.ToolProvider;

/** README.md: its examples, one run of calls, answer as it says, and each call of the face stands in it. */
public final class ReadmeTest {
    private static final Pattern BLOCK = Pattern.compile("```java\n(.*?)```", Pattern.DOTALL);
    private static final Pattern ANSWERED = Pattern.compile("(hall\\..*);\\s*// (-?\\d+)(:.*)?");
    private static final Check check = new Check();

    public static void main(String[] args) throws Exception {
        String readme = Files.readString(Path.of("README.md"));
        namesEachCall(readme);
        runExamples(examplesOf(readme));
        check.end();
    }

    private static void namesEachCall(String readme) {
        String calls = readme.substring(readme.indexOf("## All calls"), readme.indexOf("## Tests"));
        for (Method method : ClapTogether.class.getDeclaredMethods()) {
            if (!Modifier.isPublic(method.getModifiers())) continue;
            int parameters = method.getParameterCount();
            String some = parameters == 0 ? "" : "\\w+" + ", \\w+".repeat(parameters - 1);
            boolean isThere = Pattern.compile("`" + method.getName() + "\\(" + some + "\\)`").matcher(calls).find();
            check.due(method.getName() + " stands in README.md", isThere ? 1 : 0, 1);
        }
    }

    /** The lines of the examples as the body of a class; a call with its answer behind it becomes a test of it. */
    private static String examplesOf(String readme) {
        StringBuilder text = new StringBuilder("public final class Examples {\n");
        text.append("    public static void run(java.util.function.BiConsumer<String, long[]> due) {\n");
        int answered = 0;
        for (Matcher block = BLOCK.matcher(readme); block.find();) {
            for (String line : block.group(1).split("\n")) {
                Matcher call = ANSWERED.matcher(line);
                boolean isAnswered = call.matches();
                if (isAnswered) answered++;
                else if (line.startsWith("hall.")) check.due("README.md tells an answer of " + line, 0, 1);
                text.append(isAnswered ? testOf(call.group(1), call.group(2)) : line).append('\n');
            }
        }
        check.due("README.md has examples", answered > 30 ? 1 : 0, 1);
        return text.append("    }\n}\n").toString();
    }

    private static String testOf(String call, String want) {
        String name = "README.md: " + call.replace("\"", "\\\"");
        return "due.accept(\"" + name + "\", new long[] {" + call + ", " + want + "});";
    }

    private static void runExamples(String text) throws Exception {
        Path room = Files.createTempDirectory("examples");
        try {
            Path file = Files.writeString(room.resolve("Examples.java"), text);
            JavaCompiler javac = ToolProvider.getSystemJavaCompiler();
            String path = System.getProperty("java.class.path");
            int failed = javac.run(null, null, null, "-cp", path, "-d", room.toString(), file.toString());
            check.due("the examples of README.md compile", failed, 0);
            if (failed == 0) runCompiled(room);
        } finally {
            deleteAll(room);
        }
    }

    private static void runCompiled(Path room) throws Exception {
        try (URLClassLoader loader = new URLClassLoader(new URL[] {room.toUri().toURL()})) {
            BiConsumer<String, long[]> due = (call, told) -> check.due(call, told[0], told[1]);
            loader.loadClass("Examples").getMethod("run", BiConsumer.class).invoke(null, due);
        }
    }

    private static void deleteAll(Path room) throws IOException {
        Files.deleteIfExists(room.resolve("Examples.class"));
        Files.deleteIfExists(room.resolve("Examples.java"));
        Files.delete(room);
    }
}
