import java.io.IOException;
import java.nio.file.Files;
import java.nio.file.Path;
import java.util.List;
import java.util.regex.Matcher;
import java.util.regex.Pattern;

/** Rules of LANGUAGE.md that can be seen in the lines of the source; it is run from the project's folder. */
public final class LanguageTest {
    private static final Check c = new Check();
    private static final String[] LEFT_OUT = {"->", "::", "\\bfinally\\b", "\\bsynchronized\\b", "\\bassert\\b",
        "\\bcatch\\b", "\\bpackage\\b", "\\bnative\\b", "\\bvolatile\\b", "\\btransient\\b", "\\bstatic \\{",
        "\\.(equals|hashCode|toString|getMessage|getClass)\\(", "Exact\\(", "\\bSystem\\.(?!arraycopy\\()", "\"",
        "\\b(Object|Long|Random|Thread)\\b", "[^\\x00-\\x7f]"};

    public static void main(String[] args) throws IOException {
        List<String> lines = Files.readAllLines(Path.of("src/main/java/StoryClasses.java"));
        String code = String.join("\n", lines).replaceAll("(?s)/\\*.*?\\*/", "").replaceAll("//[^\n]*", "");
        for (String word : LEFT_OUT) {
            Matcher m = Pattern.compile(word).matcher(code);
            c.due("rule: " + word + " is left out", m.find() ? 1 : 0, 0);
        }
        Matcher imports = Pattern.compile("import ([^;]*);").matcher(code);
        while (imports.find()) {
            c.due("import " + imports.group(1), imports.group(1).equals("java.util.Arrays") ? 1 : 0, 1);
        }
        lengths(lines);
        c.end();
    }

    /** A method begins at a line that ends with ") {" at the depth of members, and ends at its own indent. */
    private static void lengths(List<String> lines) {
        Pattern begin = Pattern.compile("^( {4}| {8})(?!for|if|while|switch)\\w.*\\) \\{$");
        for (int i = 0; i < lines.size(); i++) {
            Matcher m = begin.matcher(lines.get(i));
            if (m.find()) {
                int end = i;
                while (end < lines.size() && !lines.get(end).equals(m.group(1) + "}")) {
                    end++;
                }
                c.due("rule 11: " + lines.get(i).trim() + " is short", end - i <= 60 ? 1 : 0, 1);
            }
        }
    }
}
