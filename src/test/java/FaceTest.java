import java.io.IOException;
import java.lang.reflect.Constructor;
import java.lang.reflect.Field;
import java.lang.reflect.Method;
import java.lang.reflect.Modifier;
import java.nio.file.Files;
import java.nio.file.Path;
import java.util.Arrays;
import java.util.List;
import java.util.Set;
import java.util.TreeSet;
import java.util.regex.Matcher;
import java.util.regex.Pattern;

/** The public face is the document's and nothing more; the source keeps to the rules that can be seen by a look. */
final class FaceTest {
    private static final String[] FACE = {
        "int feed(int,int,int,int,int)", "int land(int) IllegalArgumentException", "int fault()",
        "int told(int) IllegalArgumentException",
        "int road(int,int) IndexOutOfBoundsException IllegalArgumentException",
        "int going(int,int) NoSuchElementException IllegalArgumentException",
        "int way(int,int) NoSuchElementException IllegalArgumentException",
        "int by(int,int,int) NoSuchElementException IllegalArgumentException",
        "int shuts(int) IllegalArgumentException", "int day(int) IllegalArgumentException",
        "long run(int,int) IllegalArgumentException IllegalStateException",
        "long would(int,int,int) IllegalArgumentException IllegalStateException",
        "int row(int) IllegalArgumentException", "int clear()", "int judge(int) IllegalArgumentException",
        "long minutes()", "int ever(int) IllegalArgumentException IllegalStateException",
        "int fewest(int,int,int) IllegalArgumentException", "int lasts(int,int,int) IllegalArgumentException",
        "int best(int,int) IllegalArgumentException", "int gap(int) IllegalArgumentException",
        "long toll(int,int,int) IllegalArgumentException", "int keep(int) IllegalArgumentException",
        "long careless(int,int) NoSuchElementException IllegalArgumentException IllegalStateException",
        "long each(int,int) NoSuchElementException IllegalArgumentException",
        "long hold(int,int,int) NoSuchElementException IllegalArgumentException",
        "int who(int) IllegalArgumentException", "long more(int,int) IllegalArgumentException",
        "int which(int) IllegalArgumentException",
        "long men(int,int) IndexOutOfBoundsException IllegalArgumentException",
        "int beside(int) IllegalArgumentException", "long law(int,int) IllegalArgumentException",
        "int other(int) IllegalArgumentException", "int fits(long,int) IllegalArgumentException",
        "long seed(int,int,int,int) IllegalArgumentException IllegalStateException",
        "int image()", "int on()", "int count(int)"};

    private static int passed = 0;
    private static int failed = 0;

    private static void check(boolean good, String what) {
        if (good) {
            passed++;
        } else {
            failed++;
            System.out.println("FaceTest: " + what);
        }
    }

    public static void main(String[] args) throws IOException {
        faceIsTheDocuments();
        String source = Files.readString(Path.of(args.length > 0 ? args[0] : "src/main/java/MendingRoads.java"));
        sourceKeepsToTheRules(withoutComments(source));
        System.out.println(passed + " passed, " + failed + " failed");
        if (failed != 0) System.exit(1);
    }

    private static String told(Method m) {
        StringBuilder s = new StringBuilder(m.getReturnType().getSimpleName()).append(' ').append(m.getName()).append('(');
        s.append(String.join(",", Arrays.stream(m.getParameterTypes()).map(Class::getSimpleName).toList())).append(')');
        for (Class<?> e : m.getExceptionTypes()) s.append(' ').append(e.getSimpleName());
        return s.toString();
    }

    private static void faceIsTheDocuments() {
        Class<?> c = MendingRoads.class;
        Set<String> seen = new TreeSet<>();
        Set<String> hidden = new TreeSet<>();
        for (Method m : c.getDeclaredMethods()) {
            check(Modifier.isPublic(m.getModifiers()) || Modifier.isPrivate(m.getModifiers()), m + " is neither public nor private");
            if (Modifier.isPublic(m.getModifiers())) seen.add(told(m));
            else hidden.add(m.getName());
        }
        check(seen.equals(new TreeSet<>(Arrays.asList(FACE))), "the public methods are " + seen);
        for (String f : FACE) check(!hidden.contains(f.replaceAll("^\\w+ (\\w+)\\(.*", "$1")), "a private method bears a public name: " + f);
        for (Field f : c.getDeclaredFields()) {
            check(f.getName().equals("NONE") || Modifier.isPrivate(f.getModifiers()), f + " is not private");
            check(!Modifier.isStatic(f.getModifiers()) || Modifier.isFinal(f.getModifiers()), f + " is static and may change");
        }
        check(MendingRoads.NONE == -1, "NONE is -1");
        check(Modifier.isFinal(c.getModifiers()) && Modifier.isPublic(c.getModifiers()), "public and final");
        Constructor<?>[] made = c.getDeclaredConstructors();
        check(made.length == 1 && made[0].getParameterCount() == 0 && Modifier.isPublic(made[0].getModifiers()), "one public constructor");
        check(c.getDeclaredClasses().length + 1 <= 12, "at most twelve classes");
        for (Class<?> in : c.getDeclaredClasses()) {
            int own = 0;
            for (Field f : in.getDeclaredFields()) if (!Modifier.isStatic(f.getModifiers())) own++;
            check(own <= 20, in + " has too many fields");
            check(Modifier.isStatic(in.getModifiers()), in + " is static");
        }
    }

    private static String withoutComments(String s) {
        return s.replaceAll("(?s)/\\*.*?\\*/", "").replaceAll("//[^\n]*", "").replaceAll("\"[^\"]*\"", "\"\"");
    }

    private static void sourceKeepsToTheRules(String s) {
        for (String no : List.of("->", "::", "finally", "synchronized", "assert", "package ", "catch", "System.out", "Exact",
                "getMessage", "hashCode", "toString", "null", "double", "float", "Random", "Thread", "\" +", "+ \"")) {
            check(!s.contains(no), "the source holds " + no);
        }
        Matcher imports = Pattern.compile("import ([\\w.]+);").matcher(s);
        while (imports.find()) check(imports.group(1).equals("java.util.NoSuchElementException"), "import " + imports.group(1));
        Matcher library = Pattern.compile("\\b(Math|Integer|Long|System|Arrays)\\.(\\w+)").matcher(s);
        while (library.find()) {
            check(List.of("max", "min", "arraycopy").contains(library.group(2)), "library: " + library.group());
        }
        Matcher thrown = Pattern.compile("throw new (\\w+)").matcher(s);
        while (thrown.find()) {
            check(List.of("IllegalArgumentException", "IllegalStateException", "IndexOutOfBoundsException", "NoSuchElementException")
                    .contains(thrown.group(1)), "throws " + thrown.group(1));
        }
        check(s.chars().allMatch(c -> c < 128), "signs above 127");
    }
}
