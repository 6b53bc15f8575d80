import java.nio.file.Files;
import java.nio.file.Path;
import java.util.ArrayList;
import java.util.List;
import java.util.regex.Matcher;
import java.util.regex.Pattern;
import javax.tools.ToolProvider;

/** The examples of README.md, each line with the answer that is written behind it. */
public final class ReadmeTest {
    private static final Pattern BLOCK = Pattern.compile("```java\n(.*?)```", Pattern.DOTALL);
    private static final Pattern LINE = Pattern.compile("(.*?); +// (-?[0-9]+)( .*)?");

    private static int asked;
    private static int wrong;

    public static void main(String[] args) throws Exception {
        Path dir = Files.createTempDirectory("readme");
        Path source = dir.resolve("ReadmeExamples.java");
        Files.writeString(source, sourceOf(Files.readString(Path.of("README.md"))));
        int compiled = ToolProvider.getSystemJavaCompiler().run(null, null, null, "-d", dir.toString(), "-cp",
                System.getProperty("java.class.path"), source.toString());
        if (compiled == 0) {
            try (var loader = new java.net.URLClassLoader(new java.net.URL[] {dir.toUri().toURL()})) {
                loader.loadClass("ReadmeExamples").getMethod("run").invoke(null);
            }
        }
        for (java.io.File file : dir.toFile().listFiles()) {
            file.delete();
        }
        Files.delete(dir);
        System.out.println(asked + " answers asked, " + wrong + " not as due");
        if (compiled != 0 || asked == 0 || wrong != 0) {
            System.exit(1);
        }
    }

    public static void due(String call, long got, long due) {
        asked++;
        if (got != due) {
            wrong++;
            System.out.println("README.md: " + call + " answered " + got + ", not " + due);
        }
    }

    /** A block that begins with "static" is a method; any other becomes a part of run(). */
    private static String sourceOf(String readme) {
        List<String> methods = new ArrayList<>();
        StringBuilder run = new StringBuilder();
        Matcher blocks = BLOCK.matcher(readme);
        while (blocks.find()) {
            if (blocks.group(1).startsWith("static ")) {
                methods.add(blocks.group(1));
            } else {
                run.append("{\n");
                blocks.group(1).lines().forEach(line -> run.append(asked(line)).append("\n"));
                run.append("}\n");
            }
        }
        return "public final class ReadmeExamples {\n" + String.join("\n", methods) + "public static void run() {\n" + run + "}\n}\n";
    }

    private static String asked(String line) {
        Matcher m = LINE.matcher(line);
        if (!m.matches()) {
            return line;
        }
        return "ReadmeTest.due(\"" + m.group(1).replace("\"", "'") + "\", " + m.group(1) + ", " + m.group(2) + ");";
    }
}
