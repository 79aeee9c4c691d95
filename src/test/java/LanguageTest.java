import java.io.IOException;
import java.nio.file.Files;
import java.nio.file.Path;
import java.util.HashMap;
import java.util.List;
import java.util.Map;
import java.util.TreeSet;
import java.util.regex.Matcher;
import java.util.regex.Pattern;

/** Rules of LANGUAGE.md that can be seen in the lines of the source; it is run from the project's folder. */
public final class LanguageTest {
    private static final Check c = new Check();
    private static final String[] LEFT_OUT = {"->", "::", "\\bfinally\\b", "\\bsynchronized\\b", "\\bassert\\b",
        "\\bcatch\\b", "\\bpackage\\b", "\\bnative\\b", "\\bvolatile\\b", "\\btransient\\b", "\\bstatic \\{",
        "\\.(equals|hashCode|toString|getMessage|getClass)\\(", "Exact\\(", "\\bSystem\\.(?!arraycopy\\()", "\"",
        "\\b(Object|Long|Random|Thread)\\b", "[^\\x00-\\x7f]"};

    public static void main(String[] args) throws IOException {
        List<String> lines = Files.readAllLines(Path.of("src/main/java/StoryClasses.java"));
        String code = String.join("\n", lines).replaceAll("(?s)/\\*.*?\\*/", "").replaceAll("//[^\n]*", "");
        for (String word : LEFT_OUT) {
            Matcher m = Pattern.compile(word).matcher(code);
            c.due("rule: " + word + " is left out", m.find() ? 1 : 0, 0);
        }
        Matcher imports = Pattern.compile("import ([^;]*);").matcher(code);
        while (imports.find()) {
            c.due("import " + imports.group(1), imports.group(1).equals("java.util.Arrays") ? 1 : 0, 1);
        }
        Map<String, String> bodies = methods(List.of(code.split("\n")));
        c.due("methods are found", bodies.size() > 80 ? 1 : 0, 1);
        for (String name : bodies.keySet()) {
            c.due("rule 11: calls from " + name + " go at most eight deep", depth(name, bodies, 1) <= 8 ? 1 : 0, 1);
        }
        c.end();
    }

    /**
     * The bodies of all methods, by name. A method begins at a line that ends with ") {" at the depth of members, and
     * ends at its own indent. A name is used once, so that names tell which method calls which, and none of the
     * classes inside has a method with a name of the face (rule 1).
     */
    private static Map<String, String> methods(List<String> lines) {
        Pattern begin = Pattern.compile("^( {4}| {8})(?!(?:for|if|while|switch)\\b)(?:[\\w\\[\\]]+ )*(\\w+)\\(.*\\) \\{$");
        Map<String, String> bodies = new HashMap<>();
        for (int i = 0; i < lines.size(); i++) {
            Matcher m = begin.matcher(lines.get(i));
            if (m.find()) {
                int end = i;
                while (end < lines.size() && !lines.get(end).equals(m.group(1) + "}")) {
                    end++;
                }
                c.due("rule 11: " + lines.get(i).trim() + " is short", end - i <= 60 ? 1 : 0, 1);
                c.due("the name " + m.group(2) + " is used once", bodies.containsKey(m.group(2)) ? 1 : 0, 0);
                bodies.put(m.group(2), String.join("\n", lines.subList(i + 1, end)));
            }
        }
        return bodies;
    }

    /** How many calls stand open below and with this one, the library's too; a recursion goes beyond any bound. */
    private static int depth(String name, Map<String, String> bodies, int above) {
        if (!bodies.containsKey(name) || above > 20) {
            return 1;
        }
        int deepest = 0;
        TreeSet<String> called = new TreeSet<>();
        Matcher m = Pattern.compile("\\b(?!(?:if|for|switch|while|return)\\b)(\\w+)\\(").matcher(bodies.get(name));
        while (m.find()) {
            called.add(m.group(1));
        }
        for (String next : called) {
            deepest = Math.max(deepest, depth(next, bodies, above + 1));
        }
        return 1 + deepest;
    }
}
