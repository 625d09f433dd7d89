import java.io.IOException;
import java.lang.reflect.Method;
import java.lang.reflect.Modifier;
import java.nio.file.Files;
import java.nio.file.Path;
import java.util.Arrays;
import java.util.regex.Matcher;
import java.util.regex.Pattern;

/** The calls that README.md shows answer what it says, and it names every call of the face. */
public final class ReadmeTest {
    private static final Pattern CALL = Pattern.compile("(?m)^x\\.(\\w+)\\(([-\\d, ]*)\\);\\s*// (-?\\d+)");
    private static final Due due = new Due();

    public static void main(String[] args) throws IOException, ReflectiveOperationException {
        String page = Files.readString(Path.of("README.md"));
        calls(page);
        names(page);
        due.end();
    }

    private static void calls(String page) throws ReflectiveOperationException {
        CamFigures x = new CamFigures();
        Matcher call = CALL.matcher(page);
        int n = 0;
        while (call.find()) {
            n++;
            due.is(call.group(), answer(x, call.group(1), call.group(2)), Integer.parseInt(call.group(3)));
        }
        long lines = page.lines().filter(line -> line.startsWith("x.")).count();
        due.is("calls that tell their answer", n, (int) lines);
        due.is("there are some", n > 0 ? 1 : 0, 1);
    }

    private static int answer(CamFigures x, String name, String list) throws ReflectiveOperationException {
        String[] words = list.isEmpty() ? new String[0] : list.split(", ");
        Class<?>[] types = new Class<?>[words.length];
        Arrays.fill(types, int.class);
        Object[] arguments = Arrays.stream(words).map(Integer::valueOf).toArray();
        return (int) CamFigures.class.getMethod(name, types).invoke(x, arguments);
    }

    private static void names(String page) {
        for (Method method : CamFigures.class.getDeclaredMethods()) {
            if (Modifier.isPublic(method.getModifiers())) {
                due.is(method.getName() + " is named", page.contains("`" + method.getName() + "`") ? 1 : 0, 1);
            }
        }
    }
}
