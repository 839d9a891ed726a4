import java.io.IOException;
import java.lang.reflect.Field;
import java.lang.reflect.Modifier;
import java.nio.file.Files;
import java.nio.file.Path;
import java.util.ArrayList;
import java.util.HashMap;
import java.util.HashSet;
import java.util.List;
import java.util.Map;
import java.util.Set;
import java.util.regex.Matcher;
import java.util.regex.Pattern;

/** Those bounds of LANGUAGE.md that the shape of the source tells: sizes, depths, exceptions. */
public final class RulesTest {
    private static final Path SOURCE = Path.of("src/main/java/Rowscan.java");
    private static final Pattern CLASS = Pattern.compile(
            "(?m)^(?: {4})?(?:public|private static) final class (\\w+) \\{");
    private static final Pattern METHOD = Pattern.compile(
            "(?m)^ {4,8}(?:public|private)(?: static)? (?:[\\w\\[\\]]+ )?(\\w+)\\(([^)]*)\\)"
            + "[^;{]*\\{");
    private static final Pattern CALL = Pattern.compile("(?:(\\w+)\\.)?\\b(\\w+)\\(");
    private static final Map<String, String> PARTS = Map.of("wiring", "Wiring", "fingers",
            "Fingers", "watch", "Watch", "typist", "Typist");

    private static final class Method {
        private final String owner;
        private final String name;
        private final String parameters;
        private final String body;
        private final List<String> calls = new ArrayList<>();

        private Method(String owner, String name, String parameters, String body) {
            this.owner = owner;
            this.name = name;
            this.parameters = parameters;
            this.body = body;
        }
    }

    private final Check check = new Check();
    private final Map<String, Method> methods = new HashMap<>();

    public static void main(String[] args) throws IOException {
        RulesTest test = new RulesTest();
        String text = Files.readString(SOURCE).replaceAll("(?s)/\\*.*?\\*/|//[^\n]*", "");
        test.read(text);
        test.check.sentence("rule 3, 5: fields of the types that are left", test::fields);
        test.check.sentence("rule 5: no static initialiser, no state", () -> test.statics(text));
        test.check.sentence("rule 6: throws with a written text, in the face alone",
                test::exceptions);
        test.check.sentence("rule 8: no method calls itself, on no way", test::noRecursion);
        test.check.sentence("rule 9: each loop counts against a bound", () -> test.loops(text));
        test.check.sentence("rule 11: at most seven parameters", test::parameters);
        test.check.sentence("rule 11: methods stay short (some sixty lines)", test::lengths);
        test.check.sentence("rule 11: calls go at most eight deep", test::depths);
        test.check.sentence("rule 11: at most some twelve classes", test::classes);
        test.check.sentence("rule 12: objects are made in constructors, but for texts",
                test::making);
        test.check.end("RulesTest");
    }

    private void read(String text) {
        Matcher m = METHOD.matcher(text);
        while (m.find()) {
            String owner = ownerAt(text, m.start());
            String body = text.substring(m.end(), endOfBody(text, m.end()));
            methods.put(owner + "." + m.group(1),
                    new Method(owner, m.group(1), m.group(2), body));
        }
        for (Method method : methods.values()) {
            findCalls(method);
        }
    }

    private static String ownerAt(String text, int place) {
        String owner = "";
        Matcher m = CLASS.matcher(text);
        while (m.find() && m.start() < place) {
            owner = m.group(1);
        }
        return owner;
    }

    private static int endOfBody(String text, int start) {
        int open = 1;
        int i = start;
        while (i < text.length() && open > 0) {
            open += text.charAt(i) == '{' ? 1 : text.charAt(i) == '}' ? -1 : 0;
            i++;
        }
        return i;
    }

    private void findCalls(Method method) {
        Matcher m = CALL.matcher(method.body);
        while (m.find()) {
            String part = m.group(1) == null ? method.owner : PARTS.get(m.group(1));
            for (String owner : new String[] {part, m.group(1) == null ? "Rowscan" : part}) {
                String called = owner + "." + m.group(2);
                if (methods.containsKey(called)) {
                    method.calls.add(called);
                    break;
                }
            }
        }
    }

    private void fields() {
        Set<String> left = Set.of("int", "boolean", "int[]", "StringBuilder", "Wiring", "Fingers",
                "Watch", "Typist");
        List<Class<?>> all = new ArrayList<>(List.of(Rowscan.class.getDeclaredClasses()));
        all.add(Rowscan.class);
        for (Class<?> c : all) {
            for (Field f : c.getDeclaredFields()) {
                check.due(f + " is of a type that is left", true,
                        () -> left.contains(f.getType().getSimpleName()));
                boolean isOpen = Modifier.isStatic(f.getModifiers())
                        && !Modifier.isFinal(f.getModifiers());
                check.due(f + " is static and not final", false, () -> isOpen);
            }
        }
    }

    private void statics(String text) {
        check.due("static blocks", false, () -> text.matches("(?s).*\\bstatic\\s*\\{.*"));
    }

    private void exceptions() {
        Pattern written = Pattern.compile("throw new (?:IllegalArgument|IndexOutOfBounds|"
                + "IllegalState)Exception\\(\"[^\"]*\"\\);");
        for (Method method : methods.values()) {
            int throwing = count(method.body, Pattern.compile("\\bthrow\\b"));
            check.due(method.name + ", all are written so", throwing,
                    () -> count(method.body, written));
            boolean isFace = method.owner.equals("Rowscan") && !method.name.equals("Rowscan");
            check.due(method.name + " throws and is not of the face", false,
                    () -> throwing > 0 && !(isFace && isPublic(method.name)));
        }
    }

    private static boolean isPublic(String name) {
        for (java.lang.reflect.Method m : Rowscan.class.getDeclaredMethods()) {
            if (m.getName().equals(name) && Modifier.isPublic(m.getModifiers())) {
                return true;
            }
        }
        return false;
    }

    private static int count(String text, Pattern pattern) {
        int many = 0;
        Matcher m = pattern.matcher(text);
        while (m.find()) {
            many++;
        }
        return many;
    }

    private void noRecursion() {
        for (String name : methods.keySet()) {
            Set<String> called = new HashSet<>();
            follow(name, called);
            check.due(name + " comes to itself", false, () -> called.contains(name));
        }
    }

    private void follow(String name, Set<String> called) {
        for (String next : methods.get(name).calls) {
            if (called.add(next)) {
                follow(next, called);
            }
        }
    }

    private void loops(String text) {
        Pattern counted = Pattern.compile("for \\(int (\\w+) = \\d+; \\1 < [^;]+; \\1"
                + "(?:\\+\\+| \\+= \\d)\\)|for \\(int (\\w+) = \\d+; \\2 <= [A-Z_]+; \\2\\+\\+\\)");
        check.due("loops that count", count(text, Pattern.compile("\\b(?:for|while|do)\\b")),
                () -> count(text, counted));
    }

    private void parameters() {
        for (Method method : methods.values()) {
            check.due(method.name, true, () -> method.parameters.split(",").length <= 7);
        }
    }

    private void lengths() {
        for (Method method : methods.values()) {
            check.due(method.name, true, () -> method.body.split("\n").length <= 60);
        }
    }

    private int depthOf(String name) {
        int deepest = 0;
        for (String next : methods.get(name).calls) {
            deepest = Math.max(deepest, depthOf(next));
        }
        return 1 + deepest;
    }

    private void depths() {
        for (String name : methods.keySet()) {
            check.due(name, true, () -> depthOf(name) <= 8);
        }
    }

    private void classes() {
        check.due("classes", true, () -> 1 + Rowscan.class.getDeclaredClasses().length <= 12);
        check.due("methods found", true, () -> methods.size() > 70);
    }

    private void making() {
        Pattern making = Pattern.compile("\\bnew (?!\\w+Exception)");
        for (Method method : methods.values()) {
            boolean isConstructor = method.name.equals(method.owner);
            boolean isText = method.name.equals("picture");
            check.due(method.name + " makes objects", false,
                    () -> !isConstructor && !isText && count(method.body, making) > 0);
        }
    }
}
