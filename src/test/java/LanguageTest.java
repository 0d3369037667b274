import java.io.IOException;
import java.lang.reflect.Constructor;
import java.lang.reflect.Field;
import java.lang.reflect.Method;
import java.lang.reflect.Modifier;
import java.nio.charset.StandardCharsets;
import java.nio.file.Files;
import java.nio.file.Paths;
import java.util.Arrays;
import java.util.HashSet;
import java.util.List;
import java.util.Set;
import java.util.regex.Pattern;

/** What of LANGUAGE.md can be seen from outside: the face, the classes, and words that the source must not have. */
public final class LanguageTest {
    private static final Set<String> FACE = new HashSet<>(Arrays.asList("feed cut schema fault count name entity attribute allowed "
        .concat("combinations make drop row set get work hand bits place keep like take item failed put pass back rule judge ")
        .concat("judged write out read told begin commit abort steps").split(" ")));
    private static final String[] NEVER = {"\\bthrow\\b", "\\btry\\b", "\\bcatch\\b", "\\bfinally\\b", "->", "::", "\\bassert\\b",
        "\\bsynchronized\\b", "\\binstanceof\\b", "\\bstatic \\{", "\\bDouble\\.", "\\bMath\\.(?!min|max|abs)", "Exact\\(",
        "\\bSystem\\.(?!arraycopy)", "\\bimport (?!java\\.util\\.Arrays;)", "^package\\b", "\\bString\\.", "\" ?\\+", "\\+ ?\"",
        "\\bObject\\b", "\\bThread\\b", "[^\\x00-\\x7f]"};

    public static void main(String[] args) throws IOException {
        face();
        classes();
        source(Files.readAllLines(Paths.get("src/main/java/ExpressHouse.java"), StandardCharsets.ISO_8859_1));
        Checks.end("LanguageTest");
    }

    private static void face() {
        Checks.due("BAD", ExpressHouse.BAD, -1);
        Checks.due("FULL", ExpressHouse.FULL, -2);
        Checks.due("NONE", ExpressHouse.NONE, -3);
        Checks.due("SPENT", ExpressHouse.SPENT, -4);
        Checks.due("final", Modifier.isFinal(ExpressHouse.class.getModifiers()) ? 1 : 0, 1);
        Set<String> found = new HashSet<>();
        for (Method method : ExpressHouse.class.getDeclaredMethods()) {
            if (Modifier.isPublic(method.getModifiers())) {
                found.add(method.getName());
            } else {
                Checks.due(method + " is private", Modifier.isPrivate(method.getModifiers()) ? 1 : 0, 1);
                Checks.due(method + " has a name of the face", FACE.contains(method.getName()) ? 1 : 0, 0);
            }
        }
        Checks.due("the methods of the face", found.equals(FACE) ? 1 : 0, 1);
        Checks.due("constructors", ExpressHouse.class.getDeclaredConstructors().length, 1);
        int constants = 0;
        for (Field field : ExpressHouse.class.getDeclaredFields()) {
            constants += Modifier.isPublic(field.getModifiers()) ? 1 : 0;
            Checks.due(field + " is open", Modifier.isPublic(field.getModifiers()) || Modifier.isPrivate(field.getModifiers()) ? 0 : 1, 0);
        }
        Checks.due("constants of the face", constants, 4);
    }

    private static void classes() {
        Class<?>[] inside = ExpressHouse.class.getDeclaredClasses();
        Checks.due("some twelve classes", inside.length <= 12 ? 1 : 0, 1);
        for (Class<?> one : inside) {
            Checks.due(one + " is static", Modifier.isStatic(one.getModifiers()) ? 1 : 0, 1);
            int fields = 0;
            for (Field field : one.getDeclaredFields()) {
                boolean fixed = Modifier.isStatic(field.getModifiers());
                fields += fixed ? 0 : 1;
                Checks.due(field + " is static, but not final", fixed && !Modifier.isFinal(field.getModifiers()) ? 1 : 0, 0);
            }
            Checks.due("fields of " + one + ": " + fields, fields <= 20 ? 1 : 0, 1);
            for (Method method : one.getDeclaredMethods()) {
                Checks.due(method + " has a name of the face", FACE.contains(method.getName()) ? 1 : 0, 0);
                Checks.due(method + " takes too much", method.getParameterCount() > 7 ? 1 : 0, 0);
            }
            for (Constructor<?> constructor : one.getDeclaredConstructors()) {
                Checks.due(constructor + " takes too much", constructor.getParameterCount() > 7 ? 1 : 0, 0);
            }
        }
    }

    private static void source(List<String> lines) {
        int start = -1;
        String indent = "";
        for (int i = 0; i < lines.size(); i++) {
            String line = lines.get(i);
            String code = line.replaceAll("^\\s*(//|/\\*\\*|\\*).*", "");
            for (String word : NEVER) {
                Checks.due("line " + (i + 1) + " has " + word, Pattern.compile(word).matcher(code).find() ? 1 : 0, 0);
            }
            if (line.matches("( {4}| {8})[A-Za-z].*\\) \\{") && !line.matches(".*\\b(if|for|while|switch)\\b.*")) {
                start = i;
                indent = line.replaceAll("\\S.*", "");
            }
            if (start >= 0 && line.equals(indent + "}")) {
                Checks.due("line " + (start + 1) + ": a method of " + (i - start + 1) + " lines", i - start + 1 <= 60 ? 1 : 0, 1);
                start = -1;
            }
        }
    }
}
