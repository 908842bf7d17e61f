import java.io.IOException;
import java.nio.file.Files;
import java.nio.file.Path;
import java.util.List;
import java.util.regex.Matcher;
import java.util.regex.Pattern;

/** Rules of LANGUAGE.md that can be seen in the source; it is run from the project's folder. */
public final class LanguageTest {
    private static final Check CHECK = new Check("LanguageTest");
    private static final String[] NOT_THERE = {
        "\\bimport\\s+(?!java\\.util\\.(ArrayList|List|Arrays|Iterator|NoSuchElementException);)", "\\bpackage\\b", "::",
        "(?m)^(?!\\s*(case\\b|default\\b)).*->", "\\bfinally\\b", "\\bsynchronized\\b", "\\bassert\\b",
        "\\bstatic\\s*\\{", "\\bprotected\\b", "\\bMath\\.\\w+Exact\\b", "\\bObject\\b", "\\bSystem\\.(?!arraycopy)",
        "\\b(String|Math|Integer)\\.(format|valueOf|random)\\b", "\"\\s*\\+", "\\+\\s*\"",
        "\\bcatch\\s*\\([^)]*\\b(ArrayIndexOutOfBounds|NullPointer|ClassCast|NegativeArraySize|ArrayStore)Exception\\b",
        "\\bcatch\\s*\\([^)]*\\b(Exception|Throwable|Error)\\b",
    };

    public static void main(String[] args) throws IOException {
        List<String> lines = Files.readAllLines(Path.of("src/main/java/HoleTemplates.java"));
        String source = bare(String.join("\n", lines));
        for (String pattern : NOT_THERE) {
            Matcher m = Pattern.compile(pattern).matcher(source);
            CHECK.same("found of " + pattern, "nothing", m.find() ? m.group() : "nothing");
        }
        methodLengths(lines);
        Matcher classes = Pattern.compile("\\bclass \\w+ \\{").matcher(source);
        int count = 0;
        while (classes.find()) {
            count++;
        }
        CHECK.same("at most twelve classes", true, count <= 12);
        Matcher thrown = Pattern.compile("throw (?!new \\w+\\((\"[^\"]*\")?\\);)").matcher(source);
        CHECK.same("throws of another form", false, thrown.find());
        CHECK.end();
    }

    /** The source without comments and without what stands in its texts. */
    private static String bare(String source) {
        return source.replaceAll("/\\*\\*[\\s\\S]*?\\*/", "").replaceAll("'(\\\\.|[^\\\\'])'", "' '")
            .replaceAll("\"(\\\\.|[^\\\\\"\\n])*\"", "\"\"").replaceAll("(?m)//.*$", "");
    }

    private static void methodLengths(List<String> lines) {
        int start = 0;
        for (int i = 0; i < lines.size(); i++) {
            if (lines.get(i).matches("( {4}| {8})\\w[^=;]*\\(.*\\{")) {
                start = i;
            }
            if (lines.get(i).matches("( {4}| {8})\\}")) {
                CHECK.same("the method at line " + (start + 1) + " is short", true, i - start <= 60 || start == 0);
                start = i;
            }
        }
    }
}
