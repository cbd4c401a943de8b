import java.io.IOException;
import java.lang.reflect.Field;
import java.lang.reflect.Modifier;
import java.net.URL;
import java.net.URLClassLoader;
import java.nio.file.Files;
import java.nio.file.Path;
import java.util.ArrayList;
import java.util.Comparator;
import java.util.LinkedHashSet;
import java.util.List;
import java.util.Set;
import java.util.regex.Matcher;
import java.util.regex.Pattern;
import java.util.stream.Stream;
import javax.tools.JavaCompiler;
import javax.tools.ToolProvider;

/** What README.md says of the class and of its tests is so. */
public final class ReadmeTest {
    private static final Path PROGRAM = Path.of("src", "main", "java", "SeamPictures.java");
    private static final Path TESTS = Path.of("src", "test", "java");
    private static final Checks checks = new Checks();

    public static void main(String[] args) throws Exception {
        String readme = Files.readString(Path.of("README.md"));
        lookAtConstants(readme);
        lookAtCalls(readme, Files.readString(PROGRAM));
        lookAtTests(readme);
        lookAtExample(readme);
        checks.finish();
    }

    private static void dueList(String what, List<String> said, List<String> so) {
        List<String> wrong = new ArrayList<>(said);
        wrong.removeAll(so);
        List<String> missing = new ArrayList<>(so);
        missing.removeAll(said);
        checks.holds(what + ": not so: " + wrong + ", missing: " + missing + ", or in another order", said.equals(so));
    }

    private static List<String> allOf(String pattern, String text) {
        List<String> found = new ArrayList<>();
        Matcher m = Pattern.compile(pattern, Pattern.MULTILINE).matcher(text);
        while (m.find()) {
            found.add(m.group(1));
        }
        return found;
    }

    private static void lookAtConstants(String readme) throws IllegalAccessException {
        checks.about("the constants");
        List<String> so = new ArrayList<>();
        for (Field f : SeamPictures.class.getDeclaredFields()) {
            if (Modifier.isPublic(f.getModifiers())) {
                so.add("`" + f.getName() + "` | " + f.getInt(null));
            }
        }
        so.sort(Comparator.naturalOrder());
        dueList("constants and their values",
                allOf("^\\| (`[A-Z]+` \\| -?\\d+) \\|", readme).stream().sorted().toList(), so);
    }

    /** The calls, and what refuses each of them in the order of the returns in the class. */
    private static void lookAtCalls(String readme, String program) {
        checks.about("the calls");
        List<String> said = allOf("^\\| (`[a-z]+\\(.*) \\|$", readme).stream()
                .map(row -> row.replaceFirst(" \\|.*\\|", " |").trim()).toList();
        List<String> so = new ArrayList<>();
        Matcher m = Pattern.compile("(?ms)^    public int (\\w+)\\(([^)]*)\\) \\{$(.*?)^    \\}$").matcher(program);
        while (m.find()) {
            Set<String> refusals = new LinkedHashSet<>(allOf("return ([A-Z]+);", m.group(3)));
            refusals.remove("NONE");
            String by = String.join(", ", refusals.stream().map(name -> "`" + name + "`").toList());
            so.add(("`" + m.group(1) + "(" + m.group(2).replace("int ", "") + ")` | " + by).trim());
        }
        checks.due("calls in the class", so.size(), 20);
        dueList("calls and what refuses them", said, so);
    }

    private static void lookAtTests(String readme) throws IOException {
        checks.about("the tests");
        List<String> so;
        try (Stream<Path> files = Files.list(TESTS)) {
            so = files.map(file -> file.getFileName().toString()).filter(name -> name.endsWith("Test.java"))
                    .map(name -> name.replace(".java", "")).sorted().toList();
        }
        dueList("tests", allOf("`src/test/java/(\\w+)`", readme).stream().sorted().toList(), so);
        checks.holds(".ci/run can be run", Files.isExecutable(Path.of(".ci", "run")));
    }

    /** The example is compiled as it stands; each call behind which an answer stands is looked at. */
    private static void lookAtExample(String readme) throws Exception {
        checks.about("the example");
        List<String> examples = allOf("^```java\n((?s:.*?))^```$", readme);
        checks.due("examples", examples.size(), 1);
        StringBuilder code = new StringBuilder("public final class ReadmeExample {\n")
                .append("public static void answer(java.util.List<Integer> answers) {\n");
        List<String> calls = new ArrayList<>();
        List<Integer> said = new ArrayList<>();
        Pattern answered = Pattern.compile("^ *(?:int (\\w+) = )?(.+); +// (-?\\d+):.*$");
        for (String line : String.join("", examples).split("\n")) {
            Matcher m = answered.matcher(line);
            if (!m.matches()) {
                code.append(line).append('\n');
                continue;
            }
            calls.add(m.group(2));
            said.add(Integer.valueOf(m.group(3)));
            boolean named = m.group(1) != null;
            code.append(named ? line + "\n" : "")
                    .append("answers.add(").append(named ? m.group(1) : m.group(2)).append(");\n");
        }
        List<Integer> answers = answersOf(code.append("}\n}\n").toString());
        checks.holds("there are answers, one for each call", said.size() >= 10 && answers.size() == said.size());
        for (int i = 0; i < Math.min(answers.size(), said.size()); i++) {
            checks.due(calls.get(i), answers.get(i), said.get(i));
        }
    }

    private static List<Integer> answersOf(String code) throws Exception {
        List<Integer> answers = new ArrayList<>();
        Path folder = Files.createTempDirectory("readme");
        Path source = Files.writeString(folder.resolve("ReadmeExample.java"), code);
        JavaCompiler compiler = ToolProvider.getSystemJavaCompiler();
        int failed = compiler.run(null, null, null, "-cp", System.getProperty("java.class.path"),
                "-d", folder.toString(), source.toString());
        checks.due("compiling the example", failed, 0);
        if (failed == 0) {
            try (URLClassLoader loader = new URLClassLoader(new URL[] {folder.toUri().toURL()})) {
                loader.loadClass("ReadmeExample").getMethod("answer", List.class).invoke(null, answers);
            }
        }
        try (Stream<Path> made = Files.walk(folder)) {
            for (Path path : made.sorted(Comparator.reverseOrder()).toList()) {
                Files.delete(path);
            }
        }
        return answers;
    }
}
