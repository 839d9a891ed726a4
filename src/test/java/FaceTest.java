import java.io.IOException;
import java.lang.reflect.Constructor;
import java.lang.reflect.Field;
import java.lang.reflect.Method;
import java.lang.reflect.Modifier;
import java.nio.file.Files;
import java.nio.file.Path;
import java.util.Set;
import java.util.TreeSet;
import java.util.regex.Pattern;

/** The public face of the document, and those rules of LANGUAGE.md that a text search can tell. */
public final class FaceTest {
    private static final String SOURCE = "src/main/java/Rowscan.java";
    private static final String[] FACE = {
        "int lay(int,int) IllegalArgumentException",
        "int key(int,boolean,boolean,int,int) IndexOutOfBoundsException,IllegalArgumentException",
        "int line(int,boolean) IndexOutOfBoundsException",
        "int patience(int,boolean) IllegalArgumentException",
        "int code(int,int,int) IndexOutOfBoundsException,IllegalArgumentException",
        "int chord(int,int) IllegalArgumentException,IllegalStateException",
        "int hold(int,boolean) IndexOutOfBoundsException,IllegalStateException",
        "int scan(int) IllegalArgumentException,IllegalStateException",
        "int call() ",
        "int of(int,int) IndexOutOfBoundsException,IllegalArgumentException",
        "int set(int) IllegalArgumentException",
        "int board(int) IllegalArgumentException",
        "String text() ",
        "String picture(int) IndexOutOfBoundsException",
        "double lag() ",
        "int seen(int) IllegalArgumentException",
        "boolean exact(int) IllegalArgumentException",
        "int unclear(int) IllegalArgumentException",
        "int wouldHelp(int) IndexOutOfBoundsException",
        "int bestDiode() ",
        "int wouldGhost(int) IndexOutOfBoundsException",
        "boolean isSound() ",
        "long digest() "};
    private static final String[] FORBIDDEN = {
        "^import ", "^package ", "->", "::", "\\bassert\\b", "\\bfinally\\b", "\\bsynchronized\\b",
        "\\bcatch\\b", "\\bvar\\b", "\\bprotected\\b", "\\bRandom\\b", "\\bSystem\\.(?!arraycopy)",
        "(Math|Integer|Long)\\.\\w+Exact\\(", "\" \\+|\\+ \"", "[^\\x00-\\x7f]"};

    private final Check check = new Check();

    public static void main(String[] args) throws IOException {
        FaceTest test = new FaceTest();
        test.face();
        test.members();
        test.source(Files.readString(Path.of(SOURCE)));
        test.check.end("FaceTest");
    }

    private static String names(Class<?>[] types) {
        StringBuilder names = new StringBuilder();
        for (Class<?> type : types) {
            names.append(names.length() == 0 ? "" : ",").append(type.getSimpleName());
        }
        return names.toString();
    }

    private void face() {
        Set<String> found = new TreeSet<>();
        for (Method m : Rowscan.class.getDeclaredMethods()) {
            if (!Modifier.isPrivate(m.getModifiers())) {
                boolean isPlain = m.getModifiers() == Modifier.PUBLIC;
                found.add((isPlain ? "" : "odd ") + m.getReturnType().getSimpleName() + " "
                        + m.getName() + "(" + names(m.getParameterTypes()) + ") "
                        + names(m.getExceptionTypes()));
            }
        }
        check.due("the face", new TreeSet<>(Set.of(FACE)), () -> found);
        check.due("public and final", Modifier.PUBLIC | Modifier.FINAL, Rowscan.class::getModifiers);
        check.due("one constructor", 1, () -> Rowscan.class.getConstructors().length);
    }

    private void members() {
        Set<String> publicNames = new TreeSet<>();
        for (String line : FACE) {
            publicNames.add(line.substring(line.indexOf(' ') + 1, line.indexOf('(')));
        }
        for (Field f : Rowscan.class.getDeclaredFields()) {
            check.due("private " + f, true, () -> Modifier.isPrivate(f.getModifiers()));
        }
        for (Constructor<?> c : Rowscan.class.getDeclaredConstructors()) {
            check.due("public without a parameter", 0, c::getParameterCount);
        }
        noNamesakes(Rowscan.class, publicNames);
        for (Class<?> c : Rowscan.class.getDeclaredClasses()) {
            check.due("static " + c, true, () -> Modifier.isStatic(c.getModifiers()));
            noNamesakes(c, publicNames);
            int counted = 0;
            for (Field f : c.getDeclaredFields()) {
                counted += Modifier.isStatic(f.getModifiers()) ? 0 : 1;
            }
            int fields = counted;
            check.due("at most twenty fields in " + c, true, () -> fields <= 20);
        }
    }

    private void noNamesakes(Class<?> c, Set<String> publicNames) {
        for (Method m : c.getDeclaredMethods()) {
            boolean isPrivate = Modifier.isPrivate(m.getModifiers());
            check.due("no private namesake: " + m, false,
                    () -> isPrivate && publicNames.contains(m.getName()));
        }
    }

    private void source(String text) {
        for (String pattern : FORBIDDEN) {
            check.due("no " + pattern + " in " + SOURCE, false,
                    () -> Pattern.compile(pattern, Pattern.MULTILINE).matcher(text).find());
        }
    }
}
