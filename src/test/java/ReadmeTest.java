import java.io.IOException;
import java.lang.reflect.Method;
import java.lang.reflect.Modifier;
import java.nio.file.Files;
import java.nio.file.Path;
import java.util.regex.Pattern;

/** What README.md shows of the class is what the class does. */
public final class ReadmeTest {
    private final Check check = new Check();
    private final String page;

    private ReadmeTest(String page) {
        this.page = page;
    }

    public static void main(String[] args) throws IOException {
        ReadmeTest test = new ReadmeTest(Files.readString(Path.of("README.md")));
        test.check.sentence("README.md: the example", test::example);
        test.check.sentence("README.md: each call is told, with its parameters", test::calls);
        test.check.end("ReadmeTest");
    }

    /** A line of the example stands on the page with this answer, and the class gives it. */
    private void shown(String line, String answer, Check.Call call) {
        Pattern pattern = Pattern.compile("(?m)^" + Pattern.quote(line) + " +// "
                + Pattern.quote(answer) + "(?![\\w.])");
        check.due("the page shows " + line, true, () -> pattern.matcher(page).find());
        check.due(line, answer.replace("\"", ""), () -> String.valueOf(call.answer()));
    }

    private void example() {
        Rowscan board = new Rowscan();
        shown("board.hold(0, true);", "1", () -> board.hold(0, true));
        shown("board.hold(1, true);", "2", () -> board.hold(1, true));
        shown("board.hold(3, true);", "3", () -> board.hold(3, true));
        shown("board.scan(2);", "4", () -> board.scan(2));
        shown("board.set(2);", "16", () -> board.set(2));
        shown("board.text();", "\"abde\"", board::text);
        shown("board.picture(1);", "\"##.\"", () -> board.picture(1));
        shown("board.board(9);", "3", () -> board.board(9));
        shown("board.bestDiode();", "0", board::bestDiode);
        shown("board.key(0, true, true, 0, 0);", "9", () -> board.key(0, true, true, 0, 0));
        shown("board.exact(11);", "true", () -> board.exact(11));
        shown("board.wouldHelp(1);", "3", () -> board.wouldHelp(1));
        int lines = page.split("\nboard\\.", -1).length - 1;
        check.due("lines of the example", 12, () -> lines);
    }

    private void calls() {
        for (Method method : Rowscan.class.getDeclaredMethods()) {
            if (Modifier.isPublic(method.getModifiers())) {
                check.due(method.getName() + " is told", method.getParameterCount(),
                        () -> parametersTold(method.getName()));
            }
        }
    }

    private int parametersTold(String name) {
        int start = page.indexOf("`" + name + "(");
        if (start < 0) {
            return -1;
        }
        int open = page.indexOf('(', start);
        String parameters = page.substring(open + 1, page.indexOf(')', open));
        return parameters.isEmpty() ? 0 : parameters.split(",").length;
    }
}
