import java.io.IOException;
import java.lang.reflect.Method;
import java.net.URL;
import java.net.URLClassLoader;
import java.nio.file.Files;
import java.nio.file.Path;
import java.util.regex.Matcher;
import java.util.regex.Pattern;

/** Runs the lines that README.md shows: what stands behind a call as its answer must be its answer. */
public final class ReadmeTest {
    private static final Check CHECK = new Check("ReadmeTest");
    private static final Pattern BLOCK = Pattern.compile("```java\n(.*?)```", Pattern.DOTALL);
    private static final Pattern ANSWERED = Pattern.compile("(?m)^(?:int (\\w+) = )?(bench\\..*); +// (-?\\d+|true|false)\\b.*$");

    public static void main(String[] args) throws IOException, InterruptedException, ReflectiveOperationException {
        String readme = Files.readString(Path.of("README.md"));
        Matcher block = BLOCK.matcher(readme);
        CHECK.due("README.md shows lines of Java", block.find(), true);
        run(block.group(1));
        everyCallIsTold(readme);
        CHECK.finish();
    }

    /** Called by the lines of README.md once they are compiled. */
    public static void due(String call, Object got, Object want) {
        CHECK.due("README.md, " + call, got.toString(), want.toString());
    }

    private static void run(String lines) throws IOException, InterruptedException, ReflectiveOperationException {
        Matcher answered = ANSWERED.matcher(lines);
        StringBuilder body = new StringBuilder();
        while (answered.find()) {
            String kept = answered.group(1) == null ? "" : "int " + answered.group(1) + " = ";
            String call = answered.group(2);
            String due = kept.isEmpty() ? call : answered.group(1);
            answered.appendReplacement(body, Matcher.quoteReplacement((kept.isEmpty() ? "" : kept + call + ";\n")
                + "ReadmeTest.due(\"" + call + "\", " + due + ", " + answered.group(3) + ");"));
        }
        answered.appendTail(body);
        Path work = Files.createTempDirectory("readme");
        Path source = work.resolve("ReadmeLines.java");
        Files.writeString(source, "public class ReadmeLines { public static void run() {\n" + body + "} }\n");
        String classes = System.getProperty("java.class.path");
        Process javac = new ProcessBuilder("javac", "-cp", classes, "-d", work.toString(), source.toString()).inheritIO().start();
        CHECK.due("README.md's lines compile", javac.waitFor(), 0);
        try (URLClassLoader loader = new URLClassLoader(new URL[] {work.toUri().toURL()})) {
            loader.loadClass("ReadmeLines").getMethod("run").invoke(null);
        }
        Files.delete(work.resolve("ReadmeLines.class"));
        Files.delete(source);
        Files.delete(work);
    }

    private static void everyCallIsTold(String readme) {
        for (Method m : PlanningBench.class.getMethods()) {
            if (m.getDeclaringClass() == PlanningBench.class) {
                CHECK.due("README.md tells of " + m.getName(), readme.contains("`" + m.getName() + "("), true);
            }
        }
    }
}
