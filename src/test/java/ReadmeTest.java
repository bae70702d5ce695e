import java.io.IOException;
import java.lang.reflect.Method;
import java.net.URL;
import java.net.URLClassLoader;
import java.nio.file.Files;
import java.nio.file.Path;
import java.util.ArrayList;
import java.util.List;
import java.util.regex.Matcher;
import java.util.regex.Pattern;
import javax.tools.JavaCompiler;
import javax.tools.ToolProvider;

/** What README.md shows is so: its examples are compiled and run, and it names every call of the face. */
public final class ReadmeTest {
    private static final Path README = Path.of("README.md");
    // A call, and behind it the answer that the line tells.
    private static final Pattern EXAMPLE = Pattern.compile("(ledger\\.\\w+\\(.*?\\)); *// (-?\\d+)\\b.*");

    private final Checks checks = new Checks();

    public static void main(String[] args) throws Exception {
        new ReadmeTest().run();
    }

    private void run() throws Exception {
        String text = Files.readString(README);
        for (Method method : ZoneLedger.class.getDeclaredMethods()) {
            if (java.lang.reflect.Modifier.isPublic(method.getModifiers())) {
                checks.holds("README names " + method.getName(), text.contains("`" + method.getName() + "`"));
            }
        }
        List<String> calls = new ArrayList<>();
        List<String> told = new ArrayList<>();
        String program = programOf(text, calls, told);
        checks.holds("README has examples", calls.size() > 10);
        long[] answers = answersOf(program, calls.size());
        for (int i = 0; i < calls.size(); i++) {
            checks.due("README: " + calls.get(i), answers[i], Long.parseLong(told.get(i)));
        }
        checks.finish();
    }

    /** The examples, one behind the other, as a class that answers what each of them answers. */
    private String programOf(String text, List<String> calls, List<String> told) {
        StringBuilder body = new StringBuilder();
        boolean inside = false;
        for (String line : text.split("\n")) {
            if (line.startsWith("```")) {
                inside = line.equals("```java");
            } else if (inside) {
                Matcher example = EXAMPLE.matcher(line);
                if (example.matches()) {
                    body.append("answers[" + calls.size() + "] = " + example.group(1) + ";\n");
                    calls.add(example.group(1));
                    told.add(example.group(2));
                } else {
                    checks.holds("README tells what it answers: " + line, !line.startsWith("ledger."));
                    body.append(line).append('\n');
                }
            }
        }
        return "public final class Shown { public static void run(long[] answers) {\n" + body + "} }\n";
    }

    private long[] answersOf(String program, int size) throws Exception {
        Path folder = Files.createTempDirectory("readme");
        try {
            Path source = folder.resolve("Shown.java");
            Files.writeString(source, program);
            JavaCompiler compiler = ToolProvider.getSystemJavaCompiler();
            int failed = compiler.run(null, null, null, "-proc:none", "-cp", System.getProperty("java.class.path"),
                    "-d", folder.toString(), source.toString());
            checks.due("the examples compile", failed, 0);
            long[] answers = new long[size];
            if (failed == 0) {
                try (URLClassLoader loader = new URLClassLoader(new URL[] {folder.toUri().toURL()})) {
                    loader.loadClass("Shown").getMethod("run", long[].class).invoke(null, (Object) answers);
                }
            }
            return answers;
        } finally {
            remove(folder);
        }
    }

    private static void remove(Path folder) throws IOException {
        try (var files = Files.list(folder)) {
            for (Path file : files.toList()) {
                Files.delete(file);
            }
        }
        Files.delete(folder);
    }
}
