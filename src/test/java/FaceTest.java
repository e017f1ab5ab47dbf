import java.io.IOException;
import java.lang.reflect.Constructor;
import java.lang.reflect.Field;
import java.lang.reflect.Method;
import java.lang.reflect.Modifier;
import java.nio.file.Files;
import java.nio.file.Path;
import java.util.Arrays;
import java.util.List;
import java.util.Set;
import java.util.TreeSet;
import java.util.regex.Matcher;
import java.util.regex.Pattern;

/** The public face is the one that the document writes out, and nothing more. */
final class FaceTest extends Checks {
    private static final Class<?> FACE = MendingRoads.class;

    public static void main(String[] args) throws IOException {
        String document = Files.readString(Path.of("../shared/DOC.md"));
        Matcher block = Pattern.compile("(?s)## The public face\\s+```java\n(.*?)```").matcher(document);
        check(block.find(), "the document has no face");
        methods(methodsIn(block.group(1)), methodsIn(promises(document)));
        fields(block.group(1));
        constructor();
        classes();
        end();
    }

    /** The signatures that stand at the head of the promises. */
    private static String promises(String document) {
        StringBuilder all = new StringBuilder();
        Matcher head = Pattern.compile("(?m)^`(\\w+ \\w+\\(.*?)`:").matcher(document);
        while (head.find()) all.append("public ").append(head.group(1)).append(";\n");
        return all.toString();
    }

    /** As "int day(int) IllegalArgumentException", whatever the parameters' names. */
    private static Set<String> methodsIn(String text) {
        Set<String> all = new TreeSet<>();
        Matcher method = Pattern.compile("public (\\w+ \\w+)\\(([^)]*)\\)(?: throws ([\\w, ]+))?;").matcher(text);
        while (method.find()) {
            String parameters = method.group(2).replaceAll(" \\w+(,|$)", "$1").replace(" ", "");
            String thrown = method.group(3) == null ? "" : " " + method.group(3).replace(",", "");
            all.add(method.group(1) + "(" + parameters + ")" + thrown);
        }
        return all;
    }

    private static String told(Method m) {
        StringBuilder s = new StringBuilder(m.getReturnType().getSimpleName()).append(' ').append(m.getName()).append('(');
        s.append(String.join(",", Arrays.stream(m.getParameterTypes()).map(Class::getSimpleName).toList())).append(')');
        for (Class<?> e : m.getExceptionTypes()) s.append(' ').append(e.getSimpleName());
        return s.toString();
    }

    private static void methods(Set<String> face, Set<String> promised) {
        where = "methods";
        Set<String> seen = new TreeSet<>();
        Set<String> names = new TreeSet<>();
        Set<String> hidden = new TreeSet<>();
        for (Method m : FACE.getDeclaredMethods()) {
            boolean isPublic = Modifier.isPublic(m.getModifiers());
            check(isPublic || Modifier.isPrivate(m.getModifiers()), m + " is neither public nor private");
            check(!isPublic || !Modifier.isStatic(m.getModifiers()), m + " is static");
            if (isPublic) seen.add(told(m));
            (isPublic ? names : hidden).add(m.getName());
        }
        due(38, face.size());
        check(face.equals(promised), "the document's face is " + face + ", its promises are " + promised);
        check(face.equals(seen), "the public methods are " + seen + ", due are " + face);
        hidden.retainAll(names);
        check(hidden.isEmpty(), "private methods bear public names: " + hidden);
        check(FACE.getMethods().length == seen.size() + Object.class.getMethods().length, "some methods of Object are the class's own");
    }

    private static void fields(String face) {
        where = "fields";
        List<String> shown = Arrays.stream(FACE.getDeclaredFields()).filter(f -> !Modifier.isPrivate(f.getModifiers()))
            .map(f -> Modifier.toString(f.getModifiers()) + " " + f.getType() + " " + f.getName()).toList();
        check(shown.equals(List.of("public static final int NONE")), "shown are " + shown);
        check(face.contains("public static final int NONE = -1;"), "the document has another constant");
        due(-1, MendingRoads.NONE);
        for (Field f : FACE.getDeclaredFields()) {
            check(!Modifier.isStatic(f.getModifiers()) || Modifier.isFinal(f.getModifiers()), f + " is static and may change");
        }
    }

    private static void constructor() {
        where = "constructor";
        Constructor<?>[] made = FACE.getDeclaredConstructors();
        check(made.length == 1 && made[0].getParameterCount() == 0 && Modifier.isPublic(made[0].getModifiers()), "one public constructor");
        check(made[0].getExceptionTypes().length == 0, "it throws nothing");
    }

    private static void classes() {
        where = "classes";
        check(Modifier.isFinal(FACE.getModifiers()) && Modifier.isPublic(FACE.getModifiers()), "public and final");
        check(FACE.getSuperclass() == Object.class && FACE.getInterfaces().length == 0, "of no other kind");
        check(FACE.getPackageName().isEmpty(), "without a package");
        for (Class<?> in : FACE.getDeclaredClasses()) {
            check(Modifier.isStatic(in.getModifiers()) && Modifier.isPrivate(in.getModifiers()), in + " is private and static");
        }
    }
}
