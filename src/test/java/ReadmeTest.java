import java.io.IOException;
import java.lang.reflect.Method;
import java.lang.reflect.Modifier;
import java.net.URL;
import java.net.URLClassLoader;
import java.nio.file.Files;
import java.nio.file.Path;
import java.util.ArrayList;
import java.util.List;
import java.util.Set;
import java.util.TreeSet;
import java.util.regex.Matcher;
import java.util.regex.Pattern;
import javax.tools.JavaCompiler;
import javax.tools.ToolProvider;

/** What README.md says of calls and answers is so: its Java is compiled and run as it stands there. */
public final class ReadmeTest {
    private static final Path README = Path.of("README.md");
    private static final Pattern CALL = Pattern.compile("(x\\.\\w+\\(.*\\)); *// (throws \\w+|true|false|-?\\d+)(:.*)?");
    private static final Check check = new Check();
    private static final List<String> calls = new ArrayList<>();
    private static final List<String> due = new ArrayList<>();

    public static void main(String[] args) throws Exception {
        List<String> lines = Files.readAllLines(README);
        List<String> answers = run(source(lines));
        check.due("as many answers as calls", answers.size(), calls.size());
        for (int i = 0; i < Math.min(answers.size(), due.size()); i++) {
            check.due(calls.get(i) + " answers " + answers.get(i) + ", README.md: " + due.get(i), answers.get(i).equals(due.get(i)), true);
        }
        check.due("some calls are shown", calls.size() > 30, true);
        tellsAllCalls(lines);
        tellsHowToTest(lines);
        check.end("ReadmeTest");
    }

    private static String source(List<String> lines) {
        StringBuilder helpers = new StringBuilder();
        StringBuilder body = new StringBuilder();
        boolean inside = false;
        StringBuilder block = body;
        for (String line : lines) {
            if (line.startsWith("```")) {
                inside = line.equals("```java");
                block = body;
            } else if (inside) {
                // A block that begins with a method goes beside the calls, not among them.
                block = line.startsWith("static ") ? helpers : block;
                block.append(block == body ? recorded(line) : line).append('\n');
            }
        }
        return "public final class Readme {\n" + helpers
            + "public static void run(java.util.List<String> answers) {\n" + body + "}\n}\n";
    }

    private static String recorded(String line) {
        Matcher call = CALL.matcher(line);
        if (!call.matches()) {
            check.due("a call with its answer: " + line, line.startsWith("x."), false);
            return line;
        }
        calls.add(call.group(1));
        due.add(call.group(2));
        return "try { answers.add(\"\" + " + call.group(1) + "); }"
            + " catch (RuntimeException e) { answers.add(\"throws \" + e.getClass().getSimpleName()); }";
    }

    private static List<String> run(String source) throws Exception {
        Path made = Files.createTempDirectory("readme");
        Path file = Files.writeString(made.resolve("Readme.java"), source);
        List<String> answers = new ArrayList<>();
        JavaCompiler compiler = ToolProvider.getSystemJavaCompiler();
        int failed = compiler.run(null, null, null, "--release", "17", "-cp", System.getProperty("java.class.path"),
            "-d", made.toString(), file.toString());
        check.due("README.md's Java compiles", failed, 0);
        if (failed == 0) {
            try (URLClassLoader loader = new URLClassLoader(new URL[] {made.toUri().toURL()})) {
                loader.loadClass("Readme").getMethod("run", List.class).invoke(null, answers);
            }
        }
        Files.deleteIfExists(file);
        Files.deleteIfExists(made.resolve("Readme.class"));
        Files.deleteIfExists(made);
        return answers;
    }

    private static void tellsAllCalls(List<String> lines) {
        Set<String> face = new TreeSet<>();
        for (Method m : VelvetStates.class.getDeclaredMethods()) {
            if (Modifier.isPublic(m.getModifiers())) {
                face.add(m.getName());
            }
        }
        List<String> told = new ArrayList<>();
        for (String line : lines) {
            if (line.startsWith("| `")) {
                Matcher name = Pattern.compile("`(\\w+)`").matcher(line.substring(0, line.indexOf('|', 1)));
                while (name.find()) {
                    told.add(name.group(1));
                }
            }
        }
        check.due("each call once in the table", told.size(), face.size());
        check.due("the calls of the table: " + told, new TreeSet<>(told).equals(face), true);
    }

    private static void tellsHowToTest(List<String> lines) throws IOException {
        check.due("README.md names .ci/run", lines.contains(".ci/run"), true);
        check.due(".ci/run can be run", Files.isExecutable(Path.of(".ci/run")), true);
        String all = String.join("\n", lines);
        check.due("NONE", all.contains("`NONE` (" + VelvetStates.NONE + ")"), true);
        check.due("HIDDEN", all.contains("`HIDDEN` (" + VelvetStates.HIDDEN + ")"), true);
    }
}
