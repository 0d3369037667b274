import java.io.File;
import java.io.IOException;
import java.lang.reflect.InvocationTargetException;
import java.lang.reflect.Method;
import java.nio.charset.StandardCharsets;
import java.nio.file.Files;
import java.util.Arrays;
import java.util.HashMap;
import java.util.List;
import java.util.Map;

/**
 * Makes the calls of src/test/runs, whose answers were given by a second implementation of the document. A line is
 * "new" (an object), "tape" and the text that is put on it (bytes may be \ and two hexadecimal digits), or a call,
 * its arguments, "=", and the answer that is due.
 */
public final class RecordedRunsTest {
    private static final Map<String, Method> METHODS = new HashMap<>();

    public static void main(String[] args) throws IOException {
        for (Method method : ExpressHouse.class.getMethods()) {
            METHODS.put(method.getName(), method);
        }
        File[] files = new File("src/test/runs").listFiles();
        Checks.due("files of runs are there", files != null && files.length > 0 ? 1 : 0, 1);
        if (files != null) {
            Arrays.sort(files);
            for (File file : files) {
                play(file.getName(), Files.readAllLines(file.toPath(), StandardCharsets.US_ASCII));
            }
        }
        Checks.end("RecordedRunsTest");
    }

    private static void play(String file, List<String> lines) {
        Checks c = new Checks();
        for (int i = 0; i < lines.size(); i++) {
            String line = lines.get(i);
            if (line.equals("new")) {
                c = new Checks();
            } else if (line.startsWith("tape ")) {
                c.tape(unescaped(line.substring(5)));
            } else {
                String[] parts = line.split(" ");
                long want = Long.parseLong(parts[parts.length - 1]);
                Checks.due(file + ":" + (i + 1) + ": " + line, answer(c.house, parts), want);
            }
        }
    }

    private static String unescaped(String text) {
        StringBuilder plain = new StringBuilder();
        for (int i = 0; i < text.length(); i++) {
            if (text.charAt(i) == '\\') {
                plain.append((char) Integer.parseInt(text.substring(i + 1, i + 3), 16));
                i += 2;
            } else {
                plain.append(text.charAt(i));
            }
        }
        return plain.toString();
    }

    private static long answer(ExpressHouse house, String[] parts) {
        Method method = METHODS.get(parts[0]);
        Class<?>[] types = method.getParameterTypes();
        Object[] arguments = new Object[types.length];
        for (int i = 0; i < types.length; i++) {
            long value = Long.parseLong(parts[i + 1]);
            if (types[i] == long.class) {
                arguments[i] = value;
            } else {
                arguments[i] = (int) value;
            }
        }
        try {
            return ((Number) method.invoke(house, arguments)).longValue();
        } catch (IllegalAccessException | InvocationTargetException e) {
            throw new IllegalStateException(String.join(" ", parts), e);
        }
    }
}
