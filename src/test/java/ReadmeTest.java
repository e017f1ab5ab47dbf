import java.io.ByteArrayOutputStream;
import java.io.PrintStream;
import java.net.URL;
import java.net.URLClassLoader;
import java.nio.file.Files;
import java.nio.file.Path;
import java.util.ArrayList;
import java.util.List;
import java.util.regex.Matcher;
import java.util.regex.Pattern;
import java.util.stream.Stream;
import javax.tools.ToolProvider;

/** The program that README.md shows compiles, and prints what stands there behind each call. */
final class ReadmeTest extends Checks {
    public static void main(String[] args) throws Exception {
        String readme = Files.readString(Path.of("README.md"));
        Matcher block = Pattern.compile("(?s)```java\n(.*?)```").matcher(readme);
        where = "README.md";
        check(block.find(), "has no program");
        String program = block.group(1);
        List<String> due = new ArrayList<>();
        Matcher answers = Pattern.compile("say\\(.*\\); +// (-?\\d+)").matcher(program);
        while (answers.find()) due.add(answers.group(1));
        List<String> got = printedBy(program);
        check(due.size() > 10, "tells only " + due.size() + " answers");
        check(due.equals(got), "tells " + due + ", the program prints " + got);
        for (java.lang.reflect.Method m : MendingRoads.class.getDeclaredMethods()) {
            boolean isPublic = java.lang.reflect.Modifier.isPublic(m.getModifiers());
            check(!isPublic || readme.contains("`" + m.getName() + "`"), "does not tell of " + m.getName());
        }
        end();
    }

    private static List<String> printedBy(String program) throws Exception {
        Path out = Files.createTempDirectory("readme");
        try {
            Path source = out.resolve("Example.java");
            Files.writeString(source, program);
            int code = ToolProvider.getSystemJavaCompiler().run(null, null, null, "-cp", System.getProperty("java.class.path"),
                "-d", out.toString(), source.toString());
            check(code == 0, "the program does not compile");
            return run(out);
        } finally {
            List<Path> files;
            try (Stream<Path> all = Files.list(out)) {
                files = all.toList();
            }
            for (Path file : files) Files.delete(file);
            Files.delete(out);
        }
    }

    private static List<String> run(Path out) throws Exception {
        PrintStream console = System.out;
        ByteArrayOutputStream printed = new ByteArrayOutputStream();
        try (URLClassLoader loader = new URLClassLoader(new URL[] {out.toUri().toURL()}, ReadmeTest.class.getClassLoader())) {
            System.setOut(new PrintStream(printed, true));
            loader.loadClass("Example").getMethod("main", String[].class).invoke(null, (Object) new String[0]);
        } finally {
            System.setOut(console);
        }
        return printed.toString().lines().toList();
    }
}
