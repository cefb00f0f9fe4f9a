import java.io.IOException;
import java.nio.file.Files;
import java.nio.file.Path;
import java.util.regex.Matcher;
import java.util.regex.Pattern;

/** Rules of LANGUAGE.md that a look at the text can hold: words, library, sizes. */
public final class LanguageTest {
    private static final String[] BANNED = {
        "\\b(throw|throws|try|catch|finally|synchronized|assert|import|package|record|volatile|native)\\b", "->", "::",
        "\\b(equals|hashCode|toString)\\s*\\(", "\\bObject\\b", "\\bclass\\b\\s*\\)", "[A-Za-z]Exact\\b", "@",
        "\\b(System|Thread|Runtime|Random|Class|Iterable|Exception|Error)\\b", "\\bstatic\\s*\\{", "[^\\x00-\\x7f]",
        "\\b(Float|Double)\\b", "%[^;]*\\b0\\b", "\\bString\\b", "\"",
    };
    private static final Pattern METHOD = Pattern.compile("^( {4}| {8})(?! )[a-zA-Z].*\\) \\{$");
    private static final Pattern CONSTRUCTOR =
            Pattern.compile("(?s)\\n( {4}| {8})(?:public )?[A-Z]\\w*\\([^\\n]*\\) \\{\\n(.*?)\\n\\1\\}\\n");
    private static final Pattern HELD =
            Pattern.compile("(?m)^ {4,8}(?:private )?final (?:[A-Z]\\w*|\\w+\\S*\\[\\]) (\\w+)(?: = .*)?;");

    public static void main(String[] args) throws IOException {
        String text = Files.readString(Path.of("src/main/java/SlideRules.java"));
        String code = text.replaceAll("(?s)/\\*.*?\\*/", "").replaceAll("//[^\n]*", "");
        for (String banned : BANNED) {
            Matcher found = Pattern.compile(banned).matcher(code);
            Check.that("no " + banned, !found.find());
        }
        Matcher library = Pattern.compile("\\bMath\\.(\\w+)").matcher(code);
        while (library.find()) {
            Check.that("Math." + library.group(1), library.group(1).matches("abs|min|max|floorDiv|floorMod"));
        }
        sizes(code);
        constructors(code);
        Check.end();
    }

    /** "A constructor .. hands out nothing of the object that it makes": no object that it holds is an argument. */
    private static void constructors(String code) {
        String held = "this|" + heldObjects(code);
        Check.that("objects that are held: " + held, held.contains("|logs|") && held.contains("|marks|"));
        Pattern handed = Pattern.compile("\\([^()]*(?<!\\.)\\b(" + held + ")\\b[^().]*\\)");
        Matcher made = CONSTRUCTOR.matcher(code);
        int many = 0;
        while (made.find()) {
            many++;
            Check.that("a constructor hands out nothing: " + made.group(2), !handed.matcher(made.group(2)).find());
        }
        Check.due("constructors seen", many, 4);
    }

    private static String heldObjects(String code) {
        StringBuilder names = new StringBuilder();
        Matcher field = HELD.matcher(code);
        while (field.find()) {
            names.append(names.length() == 0 ? "" : "|").append(field.group(1));
        }
        return names.toString();
    }

    private static void sizes(String code) {
        int classes = 0;
        int begun = -1;
        String[] lines = code.split("\n");
        for (int i = 0; i < lines.length; i++) {
            if (lines[i].matches(".*\\bclass\\b.*")) {
                classes++;
                Check.that(lines[i] + " is final, and static within", lines[i].matches(
                        "public final class SlideRules \\{| {4}private static final class \\w+ \\{"));
            } else if (METHOD.matcher(lines[i]).matches()) {
                begun = i;
                Check.that("at most seven parameters: " + lines[i], lines[i].split(",").length <= 7);
            } else if (begun >= 0 && lines[i].matches(" {4}\\}| {8}\\}") && indent(lines[i]) == indent(lines[begun])) {
                Check.that("at most 60 lines: " + lines[begun], i - begun < 60);
                begun = -1;
            }
        }
        Check.that("at most twelve classes: " + classes, classes <= 12);
    }

    private static int indent(String line) {
        return line.length() - line.stripLeading().length();
    }
}
