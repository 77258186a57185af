import java.lang.reflect.InvocationTargetException;
import java.net.URL;
import java.net.URLClassLoader;
import java.nio.file.Files;
import java.nio.file.Path;
import java.util.ArrayList;
import java.util.List;
import java.util.regex.Matcher;
import java.util.regex.Pattern;
import javax.tools.ToolProvider;

/** The example in README.md: it compiles, and each "answers .." in it is what the class answers. */
public final class ReadmeTest {
    /** The declared name, the call, and what is said to be answered. */
    private static final Pattern TOLD =
            Pattern.compile("(?:int (\\w+) = )?(.+);\\s+// answers (-?[\\w.]+)(?::.*)?");

    public static void main(String[] args) throws Exception {
        Path readme = Path.of(args.length > 0 ? args[0] : ".", "README.md");
        List<String> example = example(Files.readAllLines(readme));
        Path folder = Files.createTempDirectory("readme");
        Path source = folder.resolve("ReadmeExample.java");
        Files.writeString(source, program(example));
        String classes = System.getProperty("java.class.path");
        int end = ToolProvider.getSystemJavaCompiler().run(null, null, null,
                "-cp", classes, "-d", folder.toString(), source.toString());
        Due.is("javac of the example", end, 0);
        if (end == 0) {
            run(folder);
        }
        Files.deleteIfExists(folder.resolve("ReadmeExample.class"));
        Files.delete(source);
        Files.delete(folder);
        Due.end("ReadmeTest");
    }

    private static void run(Path folder) throws Exception {
        URL[] here = {folder.toUri().toURL()};
        try (URLClassLoader loader = new URLClassLoader(here, ReadmeTest.class.getClassLoader())) {
            long[] asked = (long[]) loader.loadClass("ReadmeExample").getMethod("answers").invoke(null);
            for (int i = 0; i < asked.length; i += 3) {
                Due.is("README.md, line " + asked[i] + " of the example", asked[i + 1], asked[i + 2]);
            }
            Due.is("answers told in README.md", asked.length > 0, true);
        } catch (InvocationTargetException thrown) {
            throw new IllegalStateException("the example throws", thrown.getCause());
        }
    }

    private static List<String> example(List<String> readme) {
        List<String> lines = new ArrayList<>();
        boolean inside = false;
        for (String line : readme) {
            if (line.startsWith("```")) {
                inside = line.equals("```java");
            } else if (inside) {
                lines.add(line);
            }
        }
        return lines;
    }

    /** A class that answers, for each line that tells an answer: its number, what was answered, what was told. */
    private static String program(List<String> example) {
        StringBuilder text = new StringBuilder();
        text.append("public final class ReadmeExample { public static long[] answers() {\n");
        text.append("java.util.stream.LongStream.Builder seen = java.util.stream.LongStream.builder();\n");
        for (int i = 0; i < example.size(); i++) {
            Matcher told = TOLD.matcher(example.get(i));
            boolean tells = told.matches();
            if (!tells || told.group(1) != null) {
                text.append(example.get(i)).append('\n');
            }
            if (tells) {
                String answered = told.group(1) != null ? told.group(1) : told.group(2);
                text.append("seen.add(" + (i + 1) + ").add(" + answered + ").add(" + told.group(3) + ");\n");
            }
        }
        return text.append("return seen.build().toArray(); } }\n").toString();
    }
}
