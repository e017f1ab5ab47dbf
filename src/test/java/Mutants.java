import java.io.File;
import java.io.IOException;
import java.io.StringWriter;
import java.nio.file.Files;
import java.nio.file.Path;
import java.util.ArrayList;
import java.util.Comparator;
import java.util.List;
import java.util.concurrent.ExecutorService;
import java.util.concurrent.Executors;
import java.util.concurrent.Future;
import java.util.concurrent.TimeUnit;
import java.util.regex.Matcher;
import java.util.regex.Pattern;
import java.util.stream.Stream;
import javax.tools.JavaCompiler;
import javax.tools.ToolProvider;

/**
 * No test, but a look at the tests: changes the class in one place at a time and tells the changes that no test sees.
 * java -cp OUT Mutants OUT TEST.. , from the project's directory; OUT has the compiled tests. Takes some minutes.
 */
final class Mutants {
    private static final Path SOURCE = Path.of("src/main/java/MendingRoads.java");
    private static final long SECONDS_A_TEST = 30;

    private record Change(int from, int to, String by) { }

    private final String source = Files.readString(SOURCE);
    private final String code = blankComments(source);
    private final List<Change> changes = new ArrayList<>();

    private Mutants() throws IOException { }

    public static void main(String[] args) throws Exception {
        Mutants m = new Mutants();
        m.collect();
        List<String> tests = List.of(args).subList(1, args.length);
        ExecutorService pool = Executors.newFixedThreadPool(Runtime.getRuntime().availableProcessors());
        List<Future<String>> answers = new ArrayList<>();
        for (Change c : m.changes) answers.add(pool.submit(() -> m.tryOne(c, args[0], tests)));
        int seen = 0;
        int unlike = 0;
        for (Future<String> f : answers) {
            String left = f.get();
            if (!left.equals("no class")) unlike++;
            if (left.equals("seen")) seen++;
            if (left.startsWith("line")) System.out.println(left);
        }
        pool.shutdown();
        System.out.println(seen + " of " + unlike + " changes are seen");
    }

    /** Of the same length, so that places stay. */
    private static String blankComments(String s) {
        Matcher m = Pattern.compile("(?s)/\\*.*?\\*/|//[^\n]*|\"[^\"\n]*\"").matcher(s);
        StringBuilder b = new StringBuilder(s);
        while (m.find()) {
            for (int i = m.start(); i < m.end(); i++) if (b.charAt(i) != '\n') b.setCharAt(i, ' ');
        }
        return b.toString();
    }

    private void collect() {
        String[][] swaps = {{" < ", " <= "}, {" <= ", " < "}, {" > ", " >= "}, {" >= ", " > "}, {" == ", " != "}, {" != ", " == "},
            {" && ", " || "}, {" || ", " && "}, {" + ", " - "}, {" - ", " + "}, {" * ", " + "}, {" += ", " -= "}, {" / ", " * "},
            {" % ", " + "}, {"++;", "--;"}, {"true", "false"}, {"false", "true"}, {"Math.min", "Math.max"}, {"Math.max", "Math.min"},
            {" >>> ", " >> "}, {" | ", " & "}, {" & ", " | "}, {" < ", " == "}, {" > ", " == "}, {"(!", "("}};
        for (String[] s : swaps) {
            for (int at = code.indexOf(s[0]); at >= 0; at = code.indexOf(s[0], at + 1)) changes.add(new Change(at, at + s[0].length(), s[1]));
        }
        Matcher number = Pattern.compile("(?<![\\w.])\\d+(?![\\w.])").matcher(code);
        while (number.find()) {
            long n = Long.parseLong(number.group());
            changes.add(new Change(number.start(), number.end(), Long.toString(n + 1)));
            changes.add(new Change(number.start(), number.end(), n == 0 ? "-1" : Long.toString(n - 1)));
        }
        Matcher statement = Pattern.compile("(?m)^ +[\\w.\\[\\]+ ()|<>]*(\\(.*\\)|\\+\\+| [-+|*]?= .*|break|return);$").matcher(code);
        while (statement.find()) changes.add(new Change(statement.start(), statement.end(), ";"));
        Matcher condition = Pattern.compile("(?<=if \\().*(?=\\) \\{\n)").matcher(code);
        while (condition.find()) {
            changes.add(new Change(condition.start(), condition.end(), "true || " + condition.group()));
            changes.add(new Change(condition.start(), condition.end(), "false && (" + condition.group() + ")"));
        }
        swapNames();
        changes.sort(Comparator.comparingInt(Change::from));
    }

    private void swapNames() {
        String[][] pairs = {{"GOING_P", "GOING_Q"}, {"ROAD_A", "ROAD_B"}, {"ROAD_L", "ROAD_S"}, {"ROAD_M", "ROAD_L"}, {"GOING_W", "GOING_D"},
            {"GOING_C", "GOING_H"}, {"wear", "rested"}, {"roads", "news"}, {"roads", "goings"}, {"wets", "goings"}, {"OPEN", "RING"}, {"WORST", "RESTED"},
            {"RING", "RESTED"}, {"stays", "went"}, {"cost", "paid"}, {"begins", "length"}, {"now", "walk.state"}, {"LEAST_REST", "MOST_REST"},
            {"NOT_THERE", "NONE_SUCH"}, {"TOO_MANY", "TOO_LATE"}, {"minutesOf", "tollOf"}, {"pathMinutes", "pathPaid"}, {"heedless", "absent"},
            {"demandDays", "demandRule"}, {"day", "daysGone"}, {"rest", "MOST_REST"}, {"land.rest", "9"}, {"plan.rest", "land.rest"},
            {"imageCount", "now.rowLength"}, {"lowMarks", "highMarks"}};
        for (String[] pair : pairs) {
            for (int from = 0; from < 2; from++) {
                Matcher m = Pattern.compile("\\b" + pair[from].replace(".", "\\.") + "\\b").matcher(code);
                while (m.find()) changes.add(new Change(m.start(), m.end(), pair[1 - from]));
            }
        }
    }

    private String tryOne(Change c, String out, List<String> tests) throws IOException, InterruptedException {
        Path dir = Files.createTempDirectory("mutant");
        try {
            Path file = dir.resolve("MendingRoads.java");
            Files.writeString(file, source.substring(0, c.from) + c.by + source.substring(c.to));
            JavaCompiler javac = ToolProvider.getSystemJavaCompiler();
            boolean good = javac.getTask(new StringWriter(), null, d -> { }, List.of("-d", dir.toString(), "-nowarn", "-proc:none"), null,
                javac.getStandardFileManager(null, null, null).getJavaFileObjects(file)).call();
            if (!good) return "no class";
            for (String test : tests) if (!passes(dir + File.pathSeparator + out, test)) return "seen";
            return told(c);
        } finally {
            try (Stream<Path> all = Files.walk(dir)) {
                all.sorted(Comparator.reverseOrder()).forEach(p -> p.toFile().delete());
            }
        }
    }

    private static boolean passes(String path, String test) throws IOException, InterruptedException {
        List<String> command = new ArrayList<>(List.of("java", "-XX:TieredStopAtLevel=1", "-XX:+UseSerialGC", "-cp", path));
        command.addAll(List.of(test.split(",")));
        Process p = new ProcessBuilder(command).redirectErrorStream(true).redirectOutput(ProcessBuilder.Redirect.DISCARD).start();
        if (!p.waitFor(SECONDS_A_TEST, TimeUnit.SECONDS)) {
            p.destroyForcibly();
            return false;
        }
        return p.exitValue() == 0;
    }

    private String told(Change c) {
        int line = (int) source.substring(0, c.from + 1).lines().count();
        int begins = source.lastIndexOf('\n', c.from) + 1;
        int ends = source.indexOf('\n', c.from);
        return "line " + line + ": " + source.substring(begins, Math.max(ends, c.to)).strip() + "\n    <" + source.substring(c.from, c.to).strip() + "> by <" + c.by + "> at "
            + (c.from - begins);
    }
}
