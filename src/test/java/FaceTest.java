import java.io.IOException;
import java.lang.reflect.Field;
import java.lang.reflect.Method;
import java.lang.reflect.Modifier;
import java.nio.file.Files;
import java.nio.file.Path;
import java.util.Arrays;
import java.util.HashSet;
import java.util.Set;
import java.util.TreeSet;

/** The document's public face, and the rules of LANGUAGE.md that can be seen without reading closely. */
public final class FaceTest {
    private static final String SOURCE = "src/main/java/CamFigures.java";
    private static final String[] FACE = {"length(int)", "blank(int)", "lose(int)", "cutAt(int,int,int)",
        "height(int,int)", "copy(int,int,int,int,int)", "turn(int,int)", "blanks()", "camOf(int,int)",
        "letter(int,int,int,int)", "isCut(int)", "peg(int)", "unpeg()", "advance(int)", "pull(int)", "wind(int)",
        "show()", "marked(int,int)", "first(int,int,int)", "marks()", "see(int,int,boolean)", "fault(int,int)",
        "mend()", "explained(int)", "made(int,int)", "like(int,int)", "whose(int)", "count(int)"};
    private static final String[] NO_WORDS = {"throw", "throws", "try", "catch", "synchronized", "assert", "package",
        "protected", "Object", "System.out", "Exception"};
    private static final Due due = new Due();

    public static void main(String[] args) throws IOException {
        face();
        nothingElseIsSeen();
        names();
        words();
        due.end();
    }

    private static void isTrue(String what, boolean holds) {
        due.is(what, holds ? 1 : 0, 1);
    }

    private static void face() {
        isTrue("the class is public and final", CamFigures.class.getModifiers() == (Modifier.PUBLIC | Modifier.FINAL));
        isTrue("one constructor", CamFigures.class.getDeclaredConstructors().length == 1);
        isTrue("it is public", CamFigures.class.getConstructors().length == 1);
        Set<String> open = new TreeSet<>();
        for (Method method : CamFigures.class.getDeclaredMethods()) {
            if (Modifier.isPublic(method.getModifiers())) {
                String types = Arrays.toString(method.getParameterTypes()).replaceAll("[\\[\\] ]", "");
                open.add(method.getName() + "(" + types + ")");
                isTrue(method + " answers an int", method.getReturnType() == int.class);
            }
        }
        isTrue("public methods: " + open, open.equals(new TreeSet<>(Arrays.asList(FACE))));
    }

    private static void nothingElseIsSeen() {
        for (Method method : CamFigures.class.getDeclaredMethods()) {
            int access = method.getModifiers();
            isTrue(method + " is public or private", Modifier.isPublic(access) || Modifier.isPrivate(access));
        }
        for (Field field : CamFigures.class.getDeclaredFields()) {
            isTrue(field + " is private", Modifier.isPrivate(field.getModifiers()));
        }
        for (Class<?> inside : CamFigures.class.getDeclaredClasses()) {
            isTrue(inside + " is static", Modifier.isStatic(inside.getModifiers()));
        }
    }

    private static void names() {
        Set<String> face = new HashSet<>();
        for (String method : FACE) {
            face.add(method.substring(0, method.indexOf('(')));
        }
        for (Method method : CamFigures.class.getDeclaredMethods()) {
            boolean isPublic = Modifier.isPublic(method.getModifiers());
            isTrue(method + " has a name of its own", isPublic || !face.contains(method.getName()));
        }
        for (Class<?> inside : CamFigures.class.getDeclaredClasses()) {
            for (Method method : inside.getDeclaredMethods()) {
                isTrue(method + " has a name of its own", !face.contains(method.getName()));
                isTrue(method + " has at most seven parameters", method.getParameterCount() <= 7);
            }
            for (Field field : inside.getDeclaredFields()) {
                int kind = field.getModifiers();
                isTrue(field + ": what is static is final", !Modifier.isStatic(kind) || Modifier.isFinal(kind));
            }
        }
    }

    private static void words() throws IOException {
        String source = Files.readString(Path.of(SOURCE)).replaceAll("(?s)/\\*.*?\\*/", "");
        for (String word : NO_WORDS) {
            boolean has = source.matches("(?s).*(?<![\\w.])" + word.replace(".", "\\.") + "(?!\\w).*");
            isTrue("the source has no " + word, !has);
        }
        isTrue("no lambda", !source.contains("->"));
        isTrue("no method reference", !source.contains("::"));
        isTrue("one import at most", source.split("\nimport ", -1).length <= 2);
        isTrue("signs 1 to 127", source.chars().allMatch(c -> c > 0 && c < 128));
    }
}
