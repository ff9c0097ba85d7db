import java.io.IOException;
import java.lang.reflect.Field;
import java.lang.reflect.Method;
import java.lang.reflect.Modifier;
import java.nio.file.Files;
import java.nio.file.Path;
import java.util.Arrays;
import java.util.HashSet;
import java.util.List;
import java.util.Set;
import java.util.TreeSet;

/** The face of the class, and what of the language's rules can be seen from the class and its text. */
public final class FaceTest {
    private static final Check check = new Check("FaceTest");
    private static final String[] FACE = {
        "int feed(int,int,int,int,int) IllegalStateException",
        "int trim(int) IllegalArgumentException",
        "int addRule(int,int,boolean) IllegalArgumentException,IllegalStateException",
        "int errorAt() ",
        "int rule(int,int) IndexOutOfBoundsException",
        "int count(int) IndexOutOfBoundsException",
        "int build() IllegalStateException",
        "int states(int) IndexOutOfBoundsException",
        "int next(int,int,int) IndexOutOfBoundsException",
        "int answer(int,int) IndexOutOfBoundsException",
        "boolean isMet(int) IndexOutOfBoundsException",
        "long words(int,int) IndexOutOfBoundsException,IllegalArgumentException",
        "int shortest(int,int) IndexOutOfBoundsException",
        "int scan() IllegalStateException",
        "int token(int,int) IndexOutOfBoundsException",
        "int scanned(int) IndexOutOfBoundsException",
        "double meanLength() ",
        "long digest() ",
    };

    public static void main(String[] args) throws IOException {
        face();
        members();
        text(Files.readString(Path.of("src/main/java/LexerForge.java")));
        check.end();
    }

    private static String names(Class<?>[] types) {
        return String.join(",", Arrays.stream(types).map(Class::getSimpleName).toList());
    }

    private static void face() {
        Class<?> forge = LexerForge.class;
        check.same("public and final", Modifier.PUBLIC | Modifier.FINAL, () -> forge.getModifiers());
        Set<String> open = new TreeSet<>();
        for (Method m : forge.getDeclaredMethods()) {
            if (!Modifier.isPrivate(m.getModifiers()) && !m.isSynthetic()) {
                check.same("modifiers of " + m.getName(), Modifier.PUBLIC, () -> m.getModifiers());
                open.add(m.getReturnType() + " " + m.getName() + "(" + names(m.getParameterTypes()) + ") "
                    + names(m.getExceptionTypes()));
            }
        }
        check.same("the methods of the face", new TreeSet<>(List.of(FACE)), () -> open);
        check.same("constructors", 1, () -> forge.getDeclaredConstructors().length);
        check.same("the constructor", "public LexerForge()", () -> forge.getDeclaredConstructors()[0]);
    }

    private static void members() {
        Set<String> faceNames = new HashSet<>();
        for (String line : FACE) {
            faceNames.add(line.substring(line.indexOf(' ') + 1, line.indexOf('(')));
        }
        Class<?>[] inner = LexerForge.class.getDeclaredClasses();
        check.same("at most twelve classes", true, () -> inner.length < 12);
        look(LexerForge.class, faceNames);
        for (Class<?> one : inner) {
            check.same("static and not open: " + one, true, () -> Modifier.isStatic(one.getModifiers())
                && !Modifier.isPublic(one.getModifiers()) && !Modifier.isProtected(one.getModifiers()));
            look(one, faceNames);
        }
    }

    private static void look(Class<?> one, Set<String> faceNames) {
        int fields = 0;
        for (Field f : one.getDeclaredFields()) {
            check.same("private: " + f, true, () -> Modifier.isPrivate(f.getModifiers()));
            boolean isStatic = Modifier.isStatic(f.getModifiers());
            check.same("no static state: " + f, true, () -> !isStatic || Modifier.isFinal(f.getModifiers()));
            fields += isStatic ? 0 : 1;
        }
        int all = fields;
        check.same("at most twenty fields in " + one, true, () -> all <= 20);
        for (Method m : one.getDeclaredMethods()) {
            check.same("at most seven parameters: " + m, true, () -> m.getParameterCount() <= 7);
            boolean isFace = one == LexerForge.class && Modifier.isPublic(m.getModifiers());
            check.same("a name of its own: " + m, true, () -> isFace || !faceNames.contains(m.getName()));
        }
    }

    private static void text(String text) {
        for (String banned : new String[] {"import ", "package ", "->", "::", "catch", "finally", "synchronized",
                "assert ", "instanceof", "Exact(", "System.out", "Math.random", "nanoTime", "static {"}) {
            check.same("the text has no " + banned, false, () -> text.contains(banned));
        }
        check.same("signs 1 to 127", true, () -> text.chars().allMatch(c -> c >= 1 && c <= 127));
        check.same("whiles: every loop counts", false, () -> text.contains("while"));
        int from = 0;
        String[] lines = text.split("\n");
        for (int i = 0; i < lines.length; i++) {
            if (lines[i].matches("( {4}| {8})[a-zA-Z].*[({]\\s*.*")) {
                from = i;
            }
            int length = i - from;
            if (lines[i].matches("( {4}| {8})}")) {
                int end = i + 1;
                check.same("at most sixty lines up to line " + end, true, () -> length <= 60);
            }
        }
    }
}
