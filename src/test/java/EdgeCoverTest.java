import java.io.IOException;
import java.lang.reflect.Method;
import java.nio.file.Files;
import java.nio.file.Path;
import java.util.ArrayList;
import java.util.LinkedHashMap;
import java.util.List;
import java.util.Map;
import java.util.regex.Matcher;
import java.util.regex.Pattern;
import java.util.stream.Stream;

/** Each place of the document that names a boundary case stands in the words of a test of its own. */
public final class EdgeCoverTest {
    /** How the document names boundary cases. */
    private static final Pattern NAMED = Pattern.compile("\\b(?:BAD|FULL|NOTHING|INDEX|SIZE|NONE|NO NUMBER)\\b|\\bNO:|\\bKIND:"
        + "|-?\\d+ \\.\\. \\d+|\\d+ to \\d+|at most|at least|at first|\\bcut\\b|cuts|wrap|ninth|more than|of several|fewer than|\\blost\\b"
        + "|above \\d+|below \\d+|beyond \\d+|too soon|too many|missing|never|any more|\\(or none\\)|up to|/ is 0 by 0|held within");

    private static final Map<String, String> SECTIONS = new LinkedHashMap<>();
    private static final Map<String, boolean[]> COVERED = new LinkedHashMap<>();

    public static void main(String[] args) throws IOException, ClassNotFoundException {
        readDocument();
        Due.is("promises of the document", SECTIONS.keySet().stream().filter(s -> s.startsWith("Promise")).count(), 49);
        int tests = 0;
        for (String name : edgeClasses()) {
            for (Method one : Edges.of(Class.forName(name))) {
                tests++;
                quote(one);
            }
        }
        Due.holds("tests: " + tests, tests > 100);
        for (String at : SECTIONS.keySet()) {
            uncovered(at);
        }
        Due.end("EdgeCoverTest");
    }

    private static List<String> edgeClasses() throws IOException {
        List<String> names = new ArrayList<>();
        try (Stream<Path> files = Files.list(Path.of("src/test/java"))) {
            files.map(file -> file.getFileName().toString()).filter(name -> name.endsWith("EdgeTest.java")).sorted()
                .forEach(name -> names.add(name.replace(".java", "")));
        }
        return names;
    }

    private static void readDocument() throws IOException {
        String doc = Files.readString(Path.of("../shared/DOC.md"));
        int from = doc.indexOf("## Terms");
        int to = doc.indexOf("Ahead of the calls");
        String[] terms = doc.substring(from, to).split("======== [0-9] ");
        for (int i = 0; i < terms.length; i++) {
            section("Terms " + i, terms[i]);
        }
        Matcher m = Pattern.compile("(?s)## (Promise \\d+): \\w[^\n]*\n(.*?)(?=\n## )").matcher(doc);
        while (m.find()) {
            section(m.group(1), m.group(2));
        }
    }

    private static void section(String at, String words) {
        String plain = words.replace("```text", " ").replace("```", " ").replaceAll("\\s+", " ");
        SECTIONS.put(at, plain);
        COVERED.put(at, new boolean[plain.length()]);
    }

    private static void quote(Method test) {
        Edge edge = test.getAnnotation(Edge.class);
        String section = SECTIONS.get(edge.at());
        if (section == null) {
            Due.holds(test + " is of no part of the document: " + edge.at(), false);
            return;
        }
        Matcher m = Pattern.compile("(?<!\\w)" + Pattern.quote(edge.says())).matcher(section);
        int found = 0;
        while (m.find()) {
            found++;
            for (int i = m.start(); i < m.end(); i++) {
                COVERED.get(edge.at())[i] = true;
            }
        }
        Due.is(test.getName() + ": \"" + edge.says() + "\" stands in " + edge.at(), found, 1);
    }

    private static void uncovered(String at) {
        Matcher m = NAMED.matcher(SECTIONS.get(at));
        while (m.find()) {
            int from = Math.max(0, m.start() - 40);
            int to = Math.min(SECTIONS.get(at).length(), m.end() + 40);
            Due.holds(at + ": no test is of \"" + SECTIONS.get(at).substring(from, to) + "\"", COVERED.get(at)[m.start()]);
        }
        if (at.startsWith("Promise")) {
            boolean any = false;
            for (boolean one : COVERED.get(at)) {
                any |= one;
            }
            Due.holds(at + " has no test", any);
        }
    }
}
