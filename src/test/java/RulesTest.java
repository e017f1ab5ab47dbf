import com.sun.source.tree.ClassTree;
import com.sun.source.tree.CompilationUnitTree;
import com.sun.source.tree.MethodInvocationTree;
import com.sun.source.tree.MethodTree;
import com.sun.source.tree.NewArrayTree;
import com.sun.source.tree.NewClassTree;
import com.sun.source.tree.Tree;
import com.sun.source.tree.VariableTree;
import com.sun.source.util.JavacTask;
import com.sun.source.util.TreePathScanner;
import com.sun.source.util.Trees;
import java.io.File;
import java.io.IOException;
import java.nio.file.Files;
import java.nio.file.Path;
import java.util.LinkedHashMap;
import java.util.LinkedHashSet;
import java.util.List;
import java.util.Map;
import java.util.Set;
import java.util.regex.Matcher;
import java.util.regex.Pattern;
import javax.lang.model.element.Element;
import javax.lang.model.element.ElementKind;
import javax.lang.model.element.Modifier;
import javax.tools.JavaCompiler;
import javax.tools.StandardJavaFileManager;
import javax.tools.ToolProvider;

/** The rules of LANGUAGE.md that a look at the source can check. */
final class RulesTest extends Checks {
    private static final int MOST_CLASSES = 12;
    private static final int MOST_FIELDS = 20;
    private static final int MOST_PARAMETERS = 7;
    private static final int MOST_LINES = 60;
    private static final int MOST_DEPTH = 8;

    public static void main(String[] args) throws IOException {
        Path source = Path.of(args.length > 0 ? args[0] : "src/main/java/MendingRoads.java");
        words(withoutComments(Files.readString(source)));
        shapes(source.toFile());
        end();
    }

    private static String withoutComments(String s) {
        return s.replaceAll("(?s)/\\*.*?\\*/", "").replaceAll("//[^\n]*", "").replaceAll("\"[^\"]*\"", "\"\"");
    }

    // ---- words ----

    private static void words(String s) {
        where = "words";
        for (String no : List.of("->", "::", "finally", "synchronized", "assert", "package ", "catch", "System.out", "Exact",
                "getMessage", "hashCode", "toString", "null", "double", "float", "Random", "Thread", "\" +", "+ \"", "static {")) {
            check(!s.contains(no), "the source holds " + no);
        }
        only(s, "import ([\\w.]+);", "java.util.NoSuchElementException");
        only(s, "\\b(?:Math|Integer|Long|System|Arrays)\\.(\\w+)", "max", "min", "arraycopy");
        only(s, "throw (?:new )?(\\w+)", "IllegalArgumentException", "IllegalStateException", "IndexOutOfBoundsException",
            "NoSuchElementException");
        check(s.chars().allMatch(c -> c < 128), "signs above 127");
    }

    private static void only(String s, String pattern, String... allowed) {
        Matcher m = Pattern.compile(pattern).matcher(s);
        while (m.find()) check(List.of(allowed).contains(m.group(1)), "the source holds " + m.group());
    }

    // ---- shapes ----

    private static void shapes(File source) throws IOException {
        JavaCompiler compiler = ToolProvider.getSystemJavaCompiler();
        try (StandardJavaFileManager files = compiler.getStandardFileManager(null, null, null)) {
            JavacTask task = (JavacTask) compiler.getTask(null, files, null, List.of("-proc:none"), null, files.getJavaFileObjects(source));
            Iterable<? extends CompilationUnitTree> units = task.parse();
            task.analyze();
            Look look = new Look(Trees.instance(task));
            for (CompilationUnitTree unit : units) look.scan(unit, null);
            where = "classes";
            check(look.classes <= MOST_CLASSES, look.classes + " classes");
            depths(look.calls);
        }
    }

    /** Goes once through the file: sizes, and who calls whom. */
    private static final class Look extends TreePathScanner<Void, Void> {
        final Map<Element, Set<Element>> calls = new LinkedHashMap<>();
        int classes = 0;
        private final Trees trees;
        private Element method;

        Look(Trees trees) {
            this.trees = trees;
        }

        @Override
        public Void visitClass(ClassTree c, Void nothing) {
            classes++;
            int fields = 0;
            for (Tree member : c.getMembers()) {
                if (member instanceof VariableTree v && !v.getModifiers().getFlags().contains(Modifier.STATIC)) fields++;
            }
            where = "class " + c.getSimpleName();
            check(fields <= MOST_FIELDS, fields + " fields");
            return super.visitClass(c, nothing);
        }

        @Override
        public Void visitMethod(MethodTree m, Void nothing) {
            method = trees.getElement(getCurrentPath());
            calls.putIfAbsent(method, new LinkedHashSet<>());
            CompilationUnitTree unit = getCurrentPath().getCompilationUnit();
            long from = unit.getLineMap().getLineNumber(Math.max(0, trees.getSourcePositions().getStartPosition(unit, m)));
            long to = unit.getLineMap().getLineNumber(Math.max(0, trees.getSourcePositions().getEndPosition(unit, m)));
            where = "method " + m.getName();
            check(m.getParameters().size() <= MOST_PARAMETERS, m.getParameters().size() + " parameters");
            check(to - from < MOST_LINES, to - from + 1 + " lines");
            super.visitMethod(m, nothing);
            method = null;
            return null;
        }

        @Override
        public Void visitMethodInvocation(MethodInvocationTree call, Void nothing) {
            note(trees.getElement(getCurrentPath()));
            return super.visitMethodInvocation(call, nothing);
        }

        @Override
        public Void visitNewClass(NewClassTree made, Void nothing) {
            note(trees.getElement(getCurrentPath()));
            check(isBeingMade() || made.getIdentifier().toString().endsWith("Exception"), "makes a " + made.getIdentifier());
            return super.visitNewClass(made, nothing);
        }

        @Override
        public Void visitNewArray(NewArrayTree made, Void nothing) {
            check(isBeingMade(), "makes an array");
            return super.visitNewArray(made, nothing);
        }

        /** All calls share one room: what is kept is made with the object, and a call makes nothing. */
        private boolean isBeingMade() {
            return method == null || method.getKind() == ElementKind.CONSTRUCTOR;
        }

        private void note(Element called) {
            if (method != null && called != null) calls.get(method).add(called);
        }
    }

    private static void depths(Map<Element, Set<Element>> calls) {
        int most = 0;
        for (Element method : calls.keySet()) {
            int depth = depth(method, calls, new LinkedHashSet<>());
            where = "method " + method;
            check(depth <= MOST_DEPTH, "calls go " + depth + " deep");
            most = Math.max(most, depth);
        }
        where = "depth";
        check(most > 1, "no calls are seen");
    }

    /** Calls that stand open at once, this one counted; one that calls itself is counted once, and the library's not. */
    private static int depth(Element method, Map<Element, Set<Element>> calls, Set<Element> open) {
        if (!calls.containsKey(method) || !open.add(method)) return 0;
        int deepest = 0;
        for (Element called : calls.get(method)) deepest = Math.max(deepest, depth(called, calls, open));
        open.remove(method);
        return deepest + 1;
    }
}
