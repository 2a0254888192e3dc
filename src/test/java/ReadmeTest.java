import java.lang.reflect.Method;
import java.lang.reflect.Modifier;
import java.net.URL;
import java.net.URLClassLoader;
import java.nio.file.Files;
import java.nio.file.Path;
import java.util.List;
import java.util.function.BiConsumer;
import java.util.regex.Matcher;
import java.util.regex.Pattern;
import javax.tools.ToolProvider;

/** The lines of Java in README.md: they compile, and answer what stands behind them; run in the project's root. */
public final class ReadmeTest {
    private static final String PROGRAM = "ReadmeLines";
    private static final Pattern ANSWERED = Pattern.compile("(.*; )?(x\\.\\w+\\([^;]*\\)); +// (-?\\d+)\\b.*");

    public static void main(String[] args) throws Exception {
        List<String> readme = Files.readAllLines(Path.of("README.md"));
        Path folder = Files.createDirectories(Path.of("build/readme"));
        Path source = folder.resolve(PROGRAM + ".java");
        Files.writeString(source, programOf(readme));
        int failed = ToolProvider.getSystemJavaCompiler().run(null, null, null,
                "-cp", System.getProperty("java.class.path"), "-d", folder.toString(), source.toString());
        Check.holds("README.md's lines compile", failed == 0);
        if (failed == 0) {
            run(folder);
        }
        everyCall(String.join("\n", readme));
        Check.end();
    }

    private static String programOf(List<String> readme) {
        StringBuilder program = new StringBuilder("public final class " + PROGRAM + " {\n");
        program.append("    public static void run(java.util.function.BiConsumer<String, long[]> due) {\n");
        boolean isJava = false;
        for (int i = 0; i < readme.size(); i++) {
            String line = readme.get(i);
            if (line.startsWith("```")) {
                boolean begins = line.equals("```java");
                program.append(begins ? "{\n" : isJava ? "}\n" : "");
                isJava = begins;
            } else if (isJava) {
                program.append(statement(i + 1, line)).append('\n');
            }
        }
        return program.append("    }\n}\n").toString();
    }

    private static String statement(int number, String line) {
        Matcher answered = ANSWERED.matcher(line);
        if (!answered.matches()) {
            Check.holds("README.md line " + number + " tells what it answers", !line.contains("//"));
            return line;
        }
        String ahead = answered.group(1) == null ? "" : answered.group(1);
        String call = "README.md line " + number + ": " + answered.group(2);
        return ahead + "due.accept(\"" + call + "\", new long[] {" + answered.group(2) + ", "
                + answered.group(3) + "L});";
    }

    private static void run(Path folder) throws Exception {
        BiConsumer<String, long[]> due = (call, pair) -> Check.due(call, pair[0], pair[1]);
        try (URLClassLoader loader = new URLClassLoader(new URL[] {folder.toUri().toURL()})) {
            loader.loadClass(PROGRAM).getMethod("run", BiConsumer.class).invoke(null, due);
        }
    }

    private static void everyCall(String readme) {
        for (Method each : RowsOfTwo.class.getDeclaredMethods()) {
            if (Modifier.isPublic(each.getModifiers())) {
                Check.holds("README.md shows " + each.getName() + "()", readme.contains("x." + each.getName() + "("));
            }
        }
    }
}
