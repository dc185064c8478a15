import java.io.IOException;
import java.nio.file.Files;
import java.nio.file.Path;
import java.util.ArrayList;
import java.util.Arrays;
import java.util.HashSet;
import java.util.List;
import java.util.Set;
import java.util.regex.Matcher;
import java.util.regex.Pattern;

/** The rules of LANGUAGE.md that can be seen in the source without compiling it; and the document's whole face. */
public final class LanguageTest {
    private static final Pattern METHOD = Pattern.compile(
        "^ {4,8}((?:public |private |static |final )*)(?:[A-Za-z]+(?:\\[\\])? )?([A-Za-z]+)\\(([^()]*)\\) \\{$");

    public static void main(String[] args) throws IOException {
        String source = Files.readString(Path.of("src/main/java/PhoneBench.java"));
        String code = bare(source);
        forbidden(code);
        classes(code);
        methods(code);
        face();
        Due.end("LanguageTest");
    }

    /** Without comments, and with empty texts. */
    private static String bare(String source) {
        return source.replaceAll("(?s)/\\*.*?\\*/", "").replaceAll("//[^\n]*", "")
            .replaceAll("\"[^\"\n]*\"", "\"\"").replaceAll("'[^']'", "'x'");
    }

    private static void forbidden(String code) {
        String[] words = {"throw", "try", "catch", "synchronized", "assert", "package", "import", "protected", "native",
            "volatile", "transient", "NaN", "equals", "hashCode", "toString", "Object", "\\w+Exact", "Random", "Thread",
            "double", "float", "var"};
        for (String word : words) {
            Due.holds("rule broken by " + word, !Pattern.compile("\\b" + word + "\\b").matcher(code).find());
        }
        Due.holds("nothing else of System", !Pattern.compile("System\\.(?!arraycopy)").matcher(code).find());
        Due.holds("no lambda", !code.contains("->"));
        Due.holds("no method reference", !code.contains("::"));
        Matcher statics = Pattern.compile("(?m)^\\s*(?:public |private )?static (?!final)[^(\n]*[;=]").matcher(code);
        Due.holds("static fields are final", !statics.find());
        Due.holds("signs 1 to 127", code.chars().allMatch(c -> c > 0 && c < 128));
    }

    private static void classes(String code) {
        Matcher m = Pattern.compile("\\b(?:class|record|enum|interface) [A-Z]").matcher(code);
        int many = 0;
        while (m.find()) {
            many++;
        }
        Due.holds("classes: " + many, many >= 1 && many <= 12);
        Due.holds("the class is public and final", code.contains("public final class PhoneBench {"));
        Matcher inside = Pattern.compile("(?m)^ +(.*)\\bclass [A-Z]").matcher(code);
        while (inside.find()) {
            Due.is(inside.group(1), inside.group(1).equals("private static final ") ? 1 : 0, 1);
        }
    }

    private static void methods(String code) {
        String[] lines = code.split("\n");
        Set<String> faces = new HashSet<>();
        for (java.lang.reflect.Method one : PhoneBench.class.getDeclaredMethods()) {
            if (java.lang.reflect.Modifier.isPublic(one.getModifiers())) {
                faces.add(one.getName());
            }
        }
        int seen = 0;
        for (int i = 0; i < lines.length; i++) {
            Matcher m = METHOD.matcher(lines[i]);
            if (!m.matches()) {
                continue;
            }
            seen++;
            String indent = lines[i].substring(0, lines[i].indexOf(lines[i].trim()));
            int end = i;
            while (end < lines.length - 1 && !lines[end].equals(indent + "}")) {
                end++;
            }
            Due.holds(m.group(2) + " has " + (end - i) + " lines", end - i <= 60);
            Due.holds(m.group(2) + " has too many parameters", m.group(3).split(",").length <= 7);
            Due.holds(m.group(2) + " bears the name of a public one",
                m.group(1).contains("public") || !faces.contains(m.group(2)));
        }
        Due.holds("methods seen: " + seen, seen > 120);
    }

    /** The methods and constants of the document, and no other. */
    private static void face() throws IOException {
        String doc = Files.readString(Path.of("../shared/DOC.md"));
        List<String> due = new ArrayList<>();
        Matcher m = Pattern.compile("(?m)^    public int (\\w+)\\(([^)]*)\\);").matcher(doc);
        while (m.find()) {
            String types = m.group(2).replaceAll("(\\w+) \\w+", "$1");
            due.add(m.group(1) + "(" + types.replace(" ", "") + ")");
        }
        List<String> own = new ArrayList<>();
        for (java.lang.reflect.Method one : PhoneBench.class.getDeclaredMethods()) {
            int mods = one.getModifiers();
            if (!java.lang.reflect.Modifier.isPrivate(mods)) {
                StringBuilder types = new StringBuilder();
                for (Class<?> type : one.getParameterTypes()) {
                    types.append(types.length() == 0 ? "" : ",").append(type.getName());
                }
                own.add(one.getName() + "(" + types + ")");
                Due.holds(one.getName() + " answers an int", one.getReturnType() == int.class);
            }
        }
        own.sort(null);
        due.sort(null);
        Due.is("methods of the document", due.size(), 48);
        Due.holds("the face is " + own + ", due is " + due, own.equals(due));
        String[] constants = {"BAD", "NO", "FULL", "NONE", "NOTHING", "KIND", "INDEX", "SIZE"};
        int open = 0;
        for (java.lang.reflect.Field field : PhoneBench.class.getDeclaredFields()) {
            if (!java.lang.reflect.Modifier.isPrivate(field.getModifiers())) {
                open++;
                Due.holds(field.getName(), Arrays.asList(constants).contains(field.getName()));
            }
        }
        Due.is("constants", open, constants.length);
        Due.is("BAD", PhoneBench.BAD, Due.BAD);
        Due.is("NO", PhoneBench.NO, Due.NO);
        Due.is("FULL", PhoneBench.FULL, Due.FULL);
        Due.is("NONE", PhoneBench.NONE, Due.NONE);
        Due.is("NOTHING", PhoneBench.NOTHING, Due.NOTHING);
        Due.is("KIND", PhoneBench.KIND, Due.KIND);
        Due.is("INDEX", PhoneBench.INDEX, Due.INDEX);
        Due.is("SIZE", PhoneBench.SIZE, Due.SIZE);
    }
}
