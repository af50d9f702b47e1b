import java.io.IOException;
import java.lang.reflect.Method;
import java.lang.reflect.Modifier;
import java.net.URL;
import java.net.URLClassLoader;
import java.nio.file.DirectoryStream;
import java.nio.file.Files;
import java.nio.file.Path;
import java.util.ArrayList;
import java.util.List;
import java.util.regex.Matcher;
import java.util.regex.Pattern;
import javax.tools.ToolProvider;

/** README.md: its calls answer what stands behind them, and it names every call of the face and every test. */
public final class ReadmeTest {
    private static final Pattern BLOCK = Pattern.compile("(?s)```java\n(.*?)```");
    private static final Pattern CALL = Pattern.compile("(?:int (\\w+) = )?(x\\..+); *// -> (-?\\w+).*");
    private static final int LEAST_CALLS = 30;

    public static void main(String[] args) throws Exception {
        String page = Files.readString(Path.of("README.md"));
        namesAllCalls(page);
        namesAllTests(page);
        answersAsItSays(page);
        Checks.end("ReadmeTest");
    }

    private static void namesAllCalls(String page) {
        for (Method method : SledHouse.class.getDeclaredMethods()) {
            if (Modifier.isPublic(method.getModifiers())) {
                String name = method.getName();
                Checks.due("README names " + name, page.contains("`" + name + "`"), true);
            }
        }
    }

    private static void namesAllTests(String page) throws IOException {
        try (DirectoryStream<Path> tests = Files.newDirectoryStream(Path.of("src/test/java"), "*Test.java")) {
            for (Path test : tests) {
                String name = test.getFileName().toString().replace(".java", "");
                Checks.due("README names " + name, page.contains("| " + name + " |"), true);
            }
        }
    }

    private static void answersAsItSays(String page) throws Exception {
        List<String> blocks = new ArrayList<>();
        Matcher found = BLOCK.matcher(page);
        while (found.find()) {
            blocks.add(found.group(1));
        }
        Checks.due("blocks of code: the functions, and the race", blocks.size(), 2);
        if (blocks.size() == 2) {
            runExample("public final class ReadmeExample {\n" + blocks.get(0)
                + "public static void play(java.util.List<String> wrong) {\n" + checked(blocks.get(1)) + "}\n"
                + "static void due(String call, Object got, Object want, java.util.List<String> wrong) {\n"
                + "if (!got.equals(want)) { wrong.add(call + \" answered \" + got + \", README says \" + want); }\n"
                + "}\n}\n");
        }
    }

    /** The same lines, but each call with an answer behind it is compared with that. */
    private static String checked(String race) {
        StringBuilder code = new StringBuilder();
        int calls = 0;
        for (String line : race.split("\n")) {
            Matcher call = CALL.matcher(line);
            if (!call.matches()) {
                Checks.due("an answer is told in a form that is seen: " + line, line.contains("->"), false);
                code.append(line).append('\n');
                continue;
            }
            calls++;
            String got = call.group(2);
            if (call.group(1) != null) {
                code.append("int ").append(call.group(1)).append(" = ").append(got).append(";\n");
                got = call.group(1);
            }
            code.append("due(\"").append(call.group(2)).append("\", ").append(got).append(", ")
                .append(call.group(3)).append(", wrong);\n");
        }
        Checks.due("calls with answers, at least " + LEAST_CALLS, calls >= LEAST_CALLS, true);
        return code.toString();
    }

    private static void runExample(String source) throws Exception {
        Path folder = Files.createTempDirectory("readme");
        Path file = folder.resolve("ReadmeExample.java");
        Files.writeString(file, source);
        int failed = ToolProvider.getSystemJavaCompiler().run(null, null, null, "-proc:none", "-d", folder.toString(),
            "-cp", System.getProperty("java.class.path"), file.toString());
        Checks.due("README's code compiles", failed, 0);
        if (failed == 0) {
            List<String> wrong = new ArrayList<>();
            try (URLClassLoader loader = new URLClassLoader(new URL[] {folder.toUri().toURL()})) {
                loader.loadClass("ReadmeExample").getMethod("play", List.class).invoke(null, wrong);
            }
            for (String one : wrong) {
                Checks.fail(one);
            }
        }
        Files.deleteIfExists(folder.resolve("ReadmeExample.class"));
        Files.deleteIfExists(file);
        Files.deleteIfExists(folder);
    }
}
