import java.io.IOException;
import java.lang.reflect.InvocationTargetException;
import java.lang.reflect.Method;
import java.nio.file.Files;
import java.nio.file.Path;
import java.util.Set;
import java.util.TreeSet;
import java.util.regex.Matcher;
import java.util.regex.Pattern;

/** The calls that README.md shows, one after another on one object: each must answer what stands behind it there. */
public final class ReadmeTest {
    private static final Check check = new Check("ReadmeTest");
    private static final String FIRST = "LexerForge forge = new LexerForge();";
    private static final Pattern CALL = Pattern.compile("forge\\.(\\w+)\\((.*)\\);\\s*// ([^\\s:]+)(:.*)?");

    public static void main(String[] args) throws IOException {
        LexerForge forge = new LexerForge();
        Set<String> shown = new TreeSet<>();
        boolean isCode = false;
        for (String line : Files.readAllLines(Path.of("README.md"))) {
            boolean isFence = line.startsWith("```");
            if (isCode && !isFence && !line.equals(FIRST)) {
                shown.add(call(forge, line));
            }
            isCode = isFence ? line.equals("```java") : isCode;
        }
        Set<String> face = new TreeSet<>();
        for (Method m : LexerForge.class.getMethods()) {
            if (m.getDeclaringClass() == LexerForge.class) {
                face.add(m.getName());
            }
        }
        check.same("the methods that README.md shows", face, () -> shown);
        check.end();
    }

    /** Makes the call of a line; returns the method's name. */
    private static String call(LexerForge forge, String line) {
        Matcher parts = CALL.matcher(line);
        if (!parts.matches()) {
            check.same(line, "a call with its answer", () -> "something else");
            return line;
        }
        check.same(line, parts.group(3), () -> answer(forge, parts.group(1), parts.group(2)));
        return parts.group(1);
    }

    private static Object answer(LexerForge forge, String name, String text) {
        String[] words = text.isEmpty() ? new String[0] : text.split(", ");
        for (Method m : LexerForge.class.getMethods()) {
            if (m.getDeclaringClass() == LexerForge.class && m.getName().equals(name)
                    && m.getParameterCount() == words.length) {
                try {
                    return m.invoke(forge, arguments(words));
                } catch (IllegalAccessException | InvocationTargetException e) {
                    return e.getCause();
                }
            }
        }
        return "no such method";
    }

    private static Object[] arguments(String[] words) {
        Object[] all = new Object[words.length];
        for (int i = 0; i < words.length; i++) {
            boolean isTruth = words[i].equals("true") || words[i].equals("false");
            all[i] = isTruth ? (Object) Boolean.valueOf(words[i]) : (Object) Integer.decode(words[i]);
        }
        return all;
    }
}
