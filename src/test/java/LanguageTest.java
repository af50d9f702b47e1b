import java.io.IOException;
import java.nio.file.Files;
import java.nio.file.Path;
import java.util.regex.Matcher;
import java.util.regex.Pattern;

/** Rules of LANGUAGE.md that can be seen in the source's text. */
public final class LanguageTest {
    private static final String[] BARRED = {"\\bthrow\\b", "\\bthrows\\b", "\\btry\\b", "\\bcatch\\b", "\\bfinally\\b",
        "\\bsynchronized\\b", "\\bassert\\b", "\\bpackage\\b", "->", "::", "Exact\\(", "\\bSystem\\.(?!arraycopy)",
        "\\bMath\\.random", "\\bvalues\\(", "\\bnew [A-Za-z]+\\([^)]*\\) *\\{", "\\bprotected\\b",
        "\\bstatic *\\{", "\\bhashCode\\b", "\\btoString\\b", "\\bimport (?!java\\.util\\.Arrays;)"};

    public static void main(String[] args) throws IOException {
        String source = Files.readString(Path.of("src/main/java/SledHouse.java"));
        String code = source.replaceAll("(?s)/\\*.*?\\*/", "").replaceAll("//[^\n]*", "").replaceAll("\"[^\"\n]*\"", "\"\"");
        for (String one : BARRED) {
            Checks.due("barred: " + one, Pattern.compile(one).matcher(code).find(), false);
        }
        Checks.due("classes, at most twelve", count(code, "\\bclass [A-Z]") <= 12, true);
        Checks.due("static fields that are not final", count(code, "\\bstatic (?!final)[a-z]+(\\[\\])* [A-Za-z]+ *[=;]"), 0);
        methods(code);
        Checks.end("LanguageTest");
    }

    private static int count(String code, String pattern) {
        Matcher matcher = Pattern.compile(pattern).matcher(code);
        int many = 0;
        while (matcher.find()) {
            many++;
        }
        return many;
    }

    private static void methods(String code) {
        Matcher heads = Pattern.compile("(?m)^( +)[A-Za-z][A-Za-z\\[\\] ]* ([a-z][A-Za-z]*)\\(([^)]*)\\) \\{$").matcher(code);
        int many = 0;
        while (heads.find()) {
            many++;
            String name = heads.group(2);
            Checks.due(name + ": at most seven parameters", heads.group(3).split(",").length <= 7, true);
            int end = code.indexOf("\n" + heads.group(1) + "}", heads.end());
            Checks.due(name + ": at most sixty lines", count(code.substring(heads.start(), end), "\n") <= 60, true);
        }
        Checks.due("methods were seen", many > 60, true);
    }
}
