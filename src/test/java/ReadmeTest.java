import java.io.IOException;
import java.net.URL;
import java.net.URLClassLoader;
import java.nio.file.Files;
import java.nio.file.Path;
import java.util.ArrayList;
import java.util.List;
import java.util.regex.Matcher;
import java.util.regex.Pattern;
import javax.tools.ToolProvider;

/** The Java examples of README.md compile, and each call in them gives the answer written behind it. */
public final class ReadmeTest {
    private static final Pattern BLOCK = Pattern.compile("```java\n(.*?)```", Pattern.DOTALL);
    private static final Pattern CALL = Pattern.compile("(?m)^(x\\..*\\)); *// (true|false|-?\\d+): .*$");

    public static void main(String[] args) throws Exception {
        String readme = Files.readString(Path.of("README.md"));
        List<String> blocks = new ArrayList<>();
        Matcher m = BLOCK.matcher(readme);
        while (m.find()) {
            blocks.add(m.group(1));
        }
        Check.due("examples in README.md", blocks.size(), 2);
        String calls = CALL.matcher(blocks.get(1)).replaceAll(found -> "answers.add(\"" + found.group(2) + "\"); "
            + "calls.add(\"" + found.group(1).replace("\"", "'") + "\"); answers.add(\"\" + " + found.group(1) + ");");
        Check.due("calls in README.md that tell no answer", calls.contains("\nx."), false);
        hold("public final class ReadmeExample {\n" + blocks.get(0)
            + "public static void run(java.util.List<String> calls, java.util.List<String> answers) {\n"
            + calls + "}\n}\n");
        Check.finish();
    }

    private static void hold(String source) throws Exception {
        Path dir = Files.createTempDirectory("readme");
        try {
            compile(source, dir);
            List<String> calls = new ArrayList<>();
            List<String> answers = new ArrayList<>();
            URL[] places = {dir.toUri().toURL()};
            try (URLClassLoader loader = new URLClassLoader(places, ReadmeTest.class.getClassLoader())) {
                loader.loadClass("ReadmeExample").getMethod("run", List.class, List.class).invoke(null, calls, answers);
            }
            Check.due("README.md has calls", calls.size() > 0, true);
            for (int i = 0; i < calls.size(); i++) {
                Check.due("README.md: " + calls.get(i), answers.get(2 * i + 1), answers.get(2 * i));
            }
        } finally {
            remove(dir);
        }
    }

    private static void compile(String source, Path dir) throws IOException {
        Path file = dir.resolve("ReadmeExample.java");
        Files.writeString(file, source);
        String classes = System.getProperty("java.class.path");
        int failed = ToolProvider.getSystemJavaCompiler()
            .run(null, null, null, "-cp", classes, "-d", dir.toString(), file.toString());
        Check.due("javac of the examples in README.md", failed, 0);
    }

    private static void remove(Path dir) throws IOException {
        for (String name : new String[] {"ReadmeExample.java", "ReadmeExample.class"}) {
            Files.deleteIfExists(dir.resolve(name));
        }
        Files.delete(dir);
    }
}
