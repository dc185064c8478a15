import java.io.IOException;
import java.net.URL;
import java.net.URLClassLoader;
import java.nio.file.Files;
import java.nio.file.Path;
import java.util.function.Consumer;
import java.util.regex.Matcher;
import java.util.regex.Pattern;
import java.util.stream.Stream;
import javax.tools.ToolProvider;

/** What README.md shows is compiled and run: each call there answers what the remark behind it begins with. */
public final class ReadmeTest {
    private static final Pattern BLOCK = Pattern.compile("(?s)```java( helper)?\n(.*?)```");
    private static final Pattern LINE = Pattern.compile("(int \\w+ = )?(\\w.*\\));\\s+// (-?\\d+|[A-Z]+)(:.*)?");
    private static final String NEW = "PhoneBench bench = new PhoneBench();";

    public static void main(String[] args) throws IOException, ReflectiveOperationException {
        String readme = Files.readString(Path.of("README.md"));
        runs(sourceOf(readme));
        names(readme);
        Due.end("ReadmeTest");
    }

    private static String sourceOf(String readme) {
        StringBuilder helpers = new StringBuilder();
        StringBuilder main = new StringBuilder();
        Matcher m = BLOCK.matcher(readme);
        int lines = 0;
        while (m.find()) {
            if (m.group(1) != null) {
                helpers.append(m.group(2));
                continue;
            }
            main.append("{\n");
            for (String line : m.group(2).split("\n")) {
                main.append(line.equals(NEW) ? NEW : told(line)).append('\n');
                lines++;
            }
            main.append("}\n");
        }
        Due.holds("lines shown: " + lines, lines > 60);
        return "public final class Shown {\n" + helpers
            + "public static void go(java.util.function.Consumer<Object[]> due) {\n" + main + "}\n}\n";
    }

    private static String told(String line) {
        Matcher m = LINE.matcher(line);
        boolean isTold = m.matches();
        Due.holds("README.md tells no answer: " + line, isTold);
        if (!isTold) {
            return "";
        }
        boolean isNumber = m.group(3).matches("-?\\d+");
        String want = isNumber ? m.group(3) : "PhoneBench." + m.group(3);
        String call = m.group(2);
        String shown = "\"README.md: " + call.replace("\"", "'") + "\"";
        if (m.group(1) == null) {
            return due(shown, call, want);
        }
        return m.group(1) + call + ";\n" + due(shown, m.group(1).split(" ")[1], want);
    }

    /** The class shown has a loader of its own, to which Due is closed. */
    private static String due(String shown, String got, String want) {
        return "due.accept(new Object[] {" + shown + ", " + got + ", " + want + "});";
    }

    private static void runs(String source) throws IOException, ReflectiveOperationException {
        Path dir = Files.createTempDirectory("readme");
        try {
            Path file = Files.writeString(dir.resolve("Shown.java"), source);
            int code = ToolProvider.getSystemJavaCompiler().run(null, null, null,
                "-cp", System.getProperty("java.class.path"), "-d", dir.toString(), file.toString());
            Due.is("README.md compiles", code, 0);
            URL[] from = {dir.toUri().toURL()};
            try (URLClassLoader loader = new URLClassLoader(from, ReadmeTest.class.getClassLoader())) {
                Consumer<Object[]> due = told -> Due.is((String) told[0], (int) told[1], (int) told[2]);
                loader.loadClass("Shown").getMethod("go", Consumer.class).invoke(null, due);
            }
        } finally {
            try (Stream<Path> files = Files.list(dir)) {
                for (Path one : files.toList()) {
                    Files.delete(one);
                }
            }
            Files.delete(dir);
        }
    }

    /** README.md tells of every test class, and of none that is not there. */
    private static void names(String readme) throws IOException {
        try (Stream<Path> files = Files.list(Path.of("src/test/java"))) {
            for (Path one : files.toList()) {
                String name = one.getFileName().toString().replace(".java", "");
                boolean isTest = name.endsWith("Test");
                Due.holds("README.md does not tell of " + name, !isTest || readme.contains("`" + name + "`"));
            }
        }
        Matcher m = Pattern.compile("`(\\w+Test)`").matcher(readme);
        while (m.find()) {
            Due.holds(m.group(1) + " is not there", Files.exists(Path.of("src/test/java/" + m.group(1) + ".java")));
        }
    }
}
