import java.io.IOException;
import java.lang.reflect.Method;
import java.lang.reflect.Modifier;
import java.nio.file.Files;
import java.nio.file.Path;
import java.util.regex.Matcher;
import java.util.regex.Pattern;

/** The session that README.md shows answers what is written there, and README.md names every call. */
public final class ReadmeTest {
    private static final Pattern TOLD = Pattern.compile("tell\\(x, \"(.*)\"\\);");
    private static final Pattern CALL = Pattern.compile("x\\.(\\w+)\\((.*?)\\); +// (-?\\d+|true|false)\\b.*");

    public static void main(String[] args) throws IOException, ReflectiveOperationException {
        String readme = Files.readString(Path.of("README.md"));
        FieldCutter x = null;
        int calls = 0;
        for (String line : readme.split("\n")) {
            Matcher told = TOLD.matcher(line);
            Matcher call = CALL.matcher(line);
            if (line.equals("FieldCutter x = new FieldCutter();")) {
                x = new FieldCutter();
            } else if (told.matches()) {
                Due.tell(x, told.group(1));
            } else if (call.matches()) {
                Due.due(line, answer(x, call.group(1), call.group(2)), wanted(call.group(3)));
                calls++;
            }
        }
        Due.due("calls in README.md", calls >= 20, true);
        everyCallIsNamed(readme);
        Due.finish("ReadmeTest");
    }

    private static long answer(FieldCutter x, String name, String told) throws ReflectiveOperationException {
        String[] numbers = told.isEmpty() ? new String[0] : told.split(", ");
        Object[] values = new Object[numbers.length];
        Class<?>[] types = new Class<?>[numbers.length];
        for (int i = 0; i < numbers.length; i++) {
            values[i] = Integer.parseInt(numbers[i]);
            types[i] = int.class;
        }
        Object got = FieldCutter.class.getMethod(name, types).invoke(x, values);
        return got instanceof Boolean ? wanted(got.toString()) : (Integer) got;
    }

    private static long wanted(String text) {
        return text.equals("true") ? 1 : text.equals("false") ? 0 : Integer.parseInt(text);
    }

    private static void everyCallIsNamed(String readme) {
        for (Method m : FieldCutter.class.getDeclaredMethods()) {
            if (Modifier.isPublic(m.getModifiers())) {
                Due.due("README.md names " + m.getName(), readme.contains("`" + m.getName() + "`"), true);
            }
        }
    }
}
