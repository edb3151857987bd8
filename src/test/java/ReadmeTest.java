import java.io.IOException;
import java.lang.reflect.Method;
import java.lang.reflect.Modifier;
import java.net.URL;
import java.net.URLClassLoader;
import java.nio.file.DirectoryStream;
import java.nio.file.Files;
import java.nio.file.Path;
import java.util.ArrayList;
import java.util.List;
import java.util.regex.Matcher;
import java.util.regex.Pattern;
import javax.tools.ToolProvider;

/** README.md names every call and every test, and its example answers what it says behind each call. */
public final class ReadmeTest {
    private static final String NAME = "ReadmeExample";
    /** A call, perhaps kept under a name, and behind it what it answers. */
    private static final Pattern ANSWERED = Pattern.compile("(?:int (\\w+) = )?(.+);\\s*// (-?\\d+).*");

    public static void main(String[] args) throws Exception {
        String readme = Files.readString(Path.of("README.md"));
        namesEveryCall(readme);
        namesEveryTest(readme);
        exampleHolds(readme);
        Check.end();
    }

    private static void namesEveryCall(String readme) {
        for (Method method : Handoverhouse.class.getDeclaredMethods()) {
            if (Modifier.isPublic(method.getModifiers())) {
                Check.due("README names " + method.getName(), readme.contains("`" + method.getName() + "`"), true);
            }
        }
    }

    private static void namesEveryTest(String readme) throws IOException {
        try (DirectoryStream<Path> tests = Files.newDirectoryStream(Path.of("src", "test", "java"), "*Test.java")) {
            for (Path test : tests) {
                String name = test.getFileName().toString().replace(".java", "");
                Check.due("README names " + name, readme.contains("`" + name + "`"), true);
            }
        }
    }

    private static void exampleHolds(String readme) throws Exception {
        int start = readme.indexOf("```java\n") + "```java\n".length();
        String example = readme.substring(start, readme.indexOf("```", start));
        List<String> calls = new ArrayList<>();
        List<Long> due = new ArrayList<>();
        String program = program(example, calls, due);
        Check.due("the README's example tells answers", due.size() >= 10, true);
        List<Long> got = answers(program);
        Check.due("the README's example compiles, and answers", got.size(), due.size());
        for (int i = 0; i < got.size() && i < due.size(); i++) {
            Check.due("README: " + calls.get(i), got.get(i), due.get(i));
        }
    }

    /** The example, with each answer of which it tells put into a list; what it tells goes into due. */
    private static String program(String example, List<String> calls, List<Long> due) {
        StringBuilder text = new StringBuilder("public final class " + NAME + " {\n");
        text.append("public static void run(java.util.List<Long> answers) {\n");
        for (String line : example.split("\n")) {
            Matcher answered = ANSWERED.matcher(line);
            if (!answered.matches()) {
                text.append(line).append('\n');
                continue;
            }
            String kept = answered.group(1);
            String call = answered.group(2);
            calls.add(call);
            due.add(Long.valueOf(answered.group(3)));
            if (kept != null) {
                text.append("int ").append(kept).append(" = ").append(call).append(";\n");
            }
            text.append("answers.add((long) ").append(kept == null ? call : kept).append(");\n");
        }
        return text.append("} }\n").toString();
    }

    private static List<Long> answers(String program) throws Exception {
        List<Long> answers = new ArrayList<>();
        Path out = Files.createTempDirectory("readme");
        Path source = out.resolve(NAME + ".java");
        Path compiled = out.resolve(NAME + ".class");
        try {
            Files.writeString(source, program);
            int code = ToolProvider.getSystemJavaCompiler().run(null, null, null, "-cp",
                System.getProperty("java.class.path"), "-d", out.toString(), source.toString());
            if (code == 0) {
                run(out, answers);
            }
        } finally {
            Files.deleteIfExists(compiled);
            Files.deleteIfExists(source);
            Files.deleteIfExists(out);
        }
        return answers;
    }

    private static void run(Path out, List<Long> answers) throws Exception {
        try (URLClassLoader loader = new URLClassLoader(new URL[] {out.toUri().toURL()})) {
            loader.loadClass(NAME).getMethod("run", List.class).invoke(null, answers);
        }
    }
}
