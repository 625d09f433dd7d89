import java.io.IOException;
import java.nio.file.Files;
import java.nio.file.Path;
import java.util.Arrays;
import java.util.regex.Matcher;
import java.util.regex.Pattern;

/** SENTENCES.md names tests that are there, and a sentence of each promise. */
public final class SentencesTest {
    private static final Path TABLE = Path.of("src/test/SENTENCES.md");
    private static final Due due = new Due();

    public static void main(String[] args) throws IOException {
        String table = Files.readString(TABLE);
        Matcher test = Pattern.compile("`(\\w+Test)\\.(\\w+)`").matcher(table);
        while (test.find()) {
            due.is(test.group() + " is there", isThere(test.group(1), test.group(2)) ? 1 : 0, 1);
        }
        for (int promise = 1; promise <= 29; promise++) {
            due.is("promise " + promise + " is told of", table.contains("\n| " + promise + " | ") ? 1 : 0, 1);
        }
        due.end();
    }

    private static boolean isThere(String name, String method) {
        try {
            return Arrays.stream(Class.forName(name).getDeclaredMethods()).anyMatch(m -> m.getName().equals(method));
        } catch (ClassNotFoundException none) {
            return false;
        }
    }
}
