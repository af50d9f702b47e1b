import com.sun.source.tree.CompilationUnitTree;
import com.sun.source.tree.MethodInvocationTree;
import com.sun.source.tree.MethodTree;
import com.sun.source.tree.NewClassTree;
import com.sun.source.tree.Tree;
import com.sun.source.util.JavacTask;
import com.sun.source.util.TreePathScanner;
import com.sun.source.util.Trees;
import java.io.IOException;
import java.nio.file.Files;
import java.nio.file.Path;
import java.util.HashMap;
import java.util.HashSet;
import java.util.List;
import java.util.Map;
import java.util.Set;
import java.util.regex.Matcher;
import java.util.regex.Pattern;
import javax.lang.model.element.Element;
import javax.tools.JavaCompiler;
import javax.tools.StandardJavaFileManager;
import javax.tools.ToolProvider;

/** Rules of LANGUAGE.md that can be seen in the source. */
public final class LanguageTest {
    private static final String[] BARRED = {"\\bthrow\\b", "\\bthrows\\b", "\\btry\\b", "\\bcatch\\b", "\\bfinally\\b",
        "\\bsynchronized\\b", "\\bassert\\b", "\\bpackage\\b", "->", "::", "Exact\\(", "\\bSystem\\.(?!arraycopy)",
        "\\bMath\\.random", "\\bvalues\\(", "\\bnew [A-Za-z]+\\([^)]*\\) *\\{", "\\bprotected\\b",
        "\\bstatic *\\{", "\\bhashCode\\b", "\\btoString\\b", "\\bimport (?!java\\.util\\.Arrays;)"};

    private static final Set<String> FACE = Set.of("leg", "cold", "feed", "plan", "laws", "fault", "where", "team",
        "follow", "gap", "each", "run", "about", "dog", "time", "did", "result", "lacks", "place", "came", "spot",
        "signs", "replay", "keep", "back", "law", "planned", "count", "trouble");

    public static void main(String[] args) throws IOException {
        String source = Files.readString(Path.of("src/main/java/SledHouse.java"));
        String code = source.replaceAll("(?s)/\\*.*?\\*/", "").replaceAll("//[^\n]*", "").replaceAll("\"[^\"\n]*\"", "\"\"");
        for (String one : BARRED) {
            Checks.due("barred: " + one, Pattern.compile(one).matcher(code).find(), false);
        }
        Checks.due("classes, at most twelve", count(code, "\\bclass [A-Z]") <= 12, true);
        Checks.due("static fields that are not final", count(code, "\\bstatic (?!final)[a-z]+(\\[\\])* [A-Za-z]+ *[=;]"), 0);
        methods(code);
        depthOfCalls();
        Checks.end("LanguageTest");
    }

    private static int count(String code, String pattern) {
        Matcher matcher = Pattern.compile(pattern).matcher(code);
        int many = 0;
        while (matcher.find()) {
            many++;
        }
        return many;
    }

    private static void methods(String code) {
        Matcher heads = Pattern.compile("(?m)^( +)[A-Za-z][A-Za-z\\[\\] ]* ([a-z][A-Za-z]*)\\(([^)]*)\\) \\{$").matcher(code);
        int many = 0;
        while (heads.find()) {
            many++;
            String name = heads.group(2);
            boolean isPublic = heads.group().trim().startsWith("public ");
            Checks.due(name + ": a name of the face only there", !isPublic && FACE.contains(name), false);
            Checks.due(name + ": at most seven parameters", heads.group(3).split(",").length <= 7, true);
            int end = code.indexOf("\n" + heads.group(1) + "}", heads.end());
            Checks.due(name + ": at most sixty lines", count(code.substring(heads.start(), end), "\n") <= 60, true);
        }
        Checks.due("methods were seen", many > 60, true);
    }

    /** Rule 11: calls go at most eight deep, the library's own ones among them; and none is a recursion here. */
    private static void depthOfCalls() throws IOException {
        Calls calls = new Calls();
        JavaCompiler compiler = ToolProvider.getSystemJavaCompiler();
        try (StandardJavaFileManager files = compiler.getStandardFileManager(null, null, null)) {
            JavacTask task = (JavacTask) compiler.getTask(null, files, null, List.of("-proc:none"), null,
                files.getJavaFileObjects("src/main/java/SledHouse.java"));
            Iterable<? extends CompilationUnitTree> units = task.parse();
            task.analyze();
            calls.trees = Trees.instance(task);
            calls.scan(units, null);
        }
        Checks.due("callers were seen", calls.of.size() > 60, true);
        for (Element caller : calls.of.keySet()) {
            Checks.due(caller + " goes at most eight deep", calls.depth(caller, 1) <= 8, true);
        }
    }

    /** Which methods each method of the class calls. */
    private static final class Calls extends TreePathScanner<Void, Void> {
        private final Map<Element, Set<Element>> of = new HashMap<>();
        private Trees trees;
        private Element caller;

        @Override
        public Void visitMethod(MethodTree method, Void none) {
            Element outer = caller;
            caller = trees.getElement(getCurrentPath());
            of.computeIfAbsent(caller, key -> new HashSet<>());
            super.visitMethod(method, none);
            caller = outer;
            return null;
        }

        @Override
        public Void visitMethodInvocation(MethodInvocationTree call, Void none) {
            note(call);
            return super.visitMethodInvocation(call, none);
        }

        @Override
        public Void visitNewClass(NewClassTree made, Void none) {
            note(made);
            return super.visitNewClass(made, none);
        }

        private void note(Tree call) {
            Element called = trees.getElement(getCurrentPath());
            if (caller != null && called != null) {
                of.get(caller).add(called);
            }
        }

        int depth(Element from, int level) {
            int deepest = level;
            if (level <= 8) {
                for (Element called : of.getOrDefault(from, Set.of())) {
                    deepest = Math.max(deepest, depth(called, level + 1));
                }
            }
            return deepest;
        }
    }
}
