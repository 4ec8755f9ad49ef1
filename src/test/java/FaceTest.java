import java.lang.reflect.Constructor;
import java.lang.reflect.Field;
import java.lang.reflect.Method;
import java.lang.reflect.Modifier;
import java.nio.file.Files;
import java.nio.file.Path;
import java.util.Arrays;
import java.util.Set;
import java.util.TreeSet;
import java.util.regex.Matcher;
import java.util.regex.Pattern;
import java.util.stream.Collectors;

/** The public face, and those rules of the language that can be seen from the class and its source. */
public final class FaceTest {
    private static final Check CHECK = new Check();

    private static final Set<String> FACE = new TreeSet<>(Set.of(
            "boolean levels(int,long) throws IllegalArgumentException,IllegalStateException",
            "int join(int,int)",
            "boolean label(int,int,int)",
            "boolean write(long)",
            "int compile() throws IllegalArgumentException,IllegalStateException",
            "int position()",
            "int exit(int)",
            "int code(int,int)",
            "void empty()",
            "boolean put(int,int)",
            "int verify() throws IllegalArgumentException,IllegalStateException",
            "int found(int,int)",
            "boolean set(int,int)",
            "int get(int)",
            "int run(int) throws IllegalArgumentException,IllegalStateException",
            "int follow(int)"));

    public static void main(String[] args) throws Exception {
        members();
        nested();
        source(Files.readString(Path.of("src/main/java/LabelGuard.java")));
        CHECK.end();
    }

    private static String names(Class<?>[] types) {
        return Arrays.stream(types).map(Class::getSimpleName).collect(Collectors.joining(","));
    }

    private static String told(Method m) {
        String thrown = names(m.getExceptionTypes());
        String head = m.getReturnType().getSimpleName() + " " + m.getName() + "(" + names(m.getParameterTypes()) + ")";
        return thrown.isEmpty() ? head : head + " throws " + thrown;
    }

    private static void members() {
        Class<?> face = LabelGuard.class;
        CHECK.same("the class", "public final", Modifier.toString(face.getModifiers()));
        Set<String> methods = new TreeSet<>();
        Set<String> publicNames = new TreeSet<>();
        for (Method m : face.getDeclaredMethods()) {
            if (!Modifier.isPrivate(m.getModifiers()) && !m.isSynthetic()) {
                CHECK.same("visible " + m.getName(), "public", Modifier.toString(m.getModifiers()));
                methods.add(told(m));
                publicNames.add(m.getName());
            }
        }
        CHECK.same("the methods", FACE, methods);
        for (Method m : face.getDeclaredMethods()) {
            boolean hidden = Modifier.isPrivate(m.getModifiers());
            CHECK.same("a private " + m.getName(), false, hidden && publicNames.contains(m.getName()));
        }
        for (Constructor<?> c : face.getDeclaredConstructors()) {
            String parameters = "(" + names(c.getParameterTypes()) + ")";
            CHECK.same("constructor", "public()", Modifier.toString(c.getModifiers()) + parameters);
        }
        for (Field f : face.getDeclaredFields()) {
            boolean hidden = Modifier.isPrivate(f.getModifiers());
            CHECK.same("field " + f.getName(), true, hidden || f.getName().equals("NONE"));
            CHECK.same("static and not final " + f.getName(), false,
                    Modifier.isStatic(f.getModifiers()) && !Modifier.isFinal(f.getModifiers()));
        }
    }

    private static void nested() {
        Class<?>[] inside = LabelGuard.class.getDeclaredClasses();
        CHECK.same("not many classes", true, inside.length < 12);
        CHECK.same("fields of the class", true, instanceFields(LabelGuard.class) <= 20);
        for (Class<?> c : inside) {
            CHECK.same("nested " + c.getSimpleName(), true, Modifier.isStatic(c.getModifiers()));
            CHECK.same("hidden " + c.getSimpleName(), false, Modifier.isPublic(c.getModifiers()));
            CHECK.same("fields of " + c.getSimpleName(), true, instanceFields(c) <= 20);
            for (Method m : c.getDeclaredMethods()) {
                CHECK.same("parameters of " + m.getName(), true, m.getParameterCount() <= 7);
            }
        }
    }

    private static long instanceFields(Class<?> c) {
        return Arrays.stream(c.getDeclaredFields()).filter(f -> !Modifier.isStatic(f.getModifiers())).count();
    }

    private static void source(String source) {
        String code = source.replaceAll("(?s)/\\*.*?\\*/", "").replaceAll("//[^\n]*", "");
        String[] never = {"->", "::", "\\bcatch\\b", "\\btry\\b", "\\bfinally\\b", "\\bsynchronized\\b",
            "\\bassert\\b", "\\bimport\\b", "\\bpackage\\b", "\\bdouble\\b", "\\bfloat\\b", "Exact\\b",
            "\\bSystem\\.(?!arraycopy)", "\\bMath\\b", "\\bequals\\b", "\\bhashCode\\b", "\\btoString\\b"};
        for (String word : never) {
            Matcher found = Pattern.compile(word).matcher(code);
            CHECK.same("the source has " + word, false, found.find());
        }
        Matcher thrown = Pattern.compile("\\bthrow\\b([^;]*);").matcher(code);
        while (thrown.find()) {
            CHECK.same("throws " + thrown.group(1), true,
                    thrown.group(1).matches(" new Illegal(State|Argument)Exception\\(\"[^\"]*\"\\)"));
        }
        int open = -1;
        String[] lines = source.split("\n");
        for (int i = 0; i < lines.length; i++) {
            boolean head = lines[i].matches(" {4}( {4})?\\S.*\\) (throws .*)?\\{");
            open = head ? i : open;
            CHECK.same("a method of more than 60 lines at " + (open + 1), false,
                    open >= 0 && lines[i].matches(" {4}( {4})?\\}") && i - open > 60);
        }
    }
}
