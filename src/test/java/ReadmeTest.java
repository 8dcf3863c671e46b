import java.io.IOException;
import java.lang.reflect.Method;
import java.lang.reflect.Modifier;
import java.nio.charset.StandardCharsets;
import java.nio.file.DirectoryStream;
import java.nio.file.Files;
import java.nio.file.Path;
import java.util.HashMap;
import java.util.Map;
import java.util.regex.Matcher;
import java.util.regex.Pattern;

/** README.md says how to use the class: its example answers so, its text is one, no call is left out. */
public final class ReadmeTest {
    private static final Check CHECK = new Check();

    private static final Pattern CALL = Pattern.compile("^x\\.(\\w+)\\(([^)]*)\\);(?:\\s*// (-?\\w+))?");

    private static Map<String, Method> face() {
        Map<String, Method> face = new HashMap<>();
        for (Method method : TalkTables.class.getDeclaredMethods()) {
            if (Modifier.isPublic(method.getModifiers())) {
                face.put(method.getName(), method);
            }
        }
        return face;
    }

    /** What stands between the first mark of that kind and the end of its block. */
    private static String block(String page, String kind) {
        int from = page.indexOf("```" + kind + "\n");
        int to = page.indexOf("\n```", from + 3);
        CHECK.due("a block of " + kind, from >= 0 && to > from, true);
        return from >= 0 && to > from ? page.substring(page.indexOf('\n', from) + 1, to + 1) : "";
    }

    private static Object[] numbers(String list) {
        if (list.isEmpty()) {
            return new Object[0];
        }
        String[] parts = list.split(", ");
        Object[] numbers = new Object[parts.length];
        for (int i = 0; i < parts.length; i++) {
            numbers[i] = Integer.valueOf(parts[i]);
        }
        return numbers;
    }

    private static void example(String code, Map<String, Method> face) throws ReflectiveOperationException {
        TalkTables x = new TalkTables();
        int answers = 0;
        for (String line : code.split("\n")) {
            Matcher call = CALL.matcher(line);
            if (call.find()) {
                Object got = face.get(call.group(1)).invoke(x, numbers(call.group(2)));
                if (call.group(3) != null) {
                    answers++;
                    CHECK.due(line + " (answered " + got + ")", got.toString().equals(call.group(3)), true);
                }
            }
        }
        CHECK.due("answers that the example tells", answers > 5, true);
    }

    private static void names(String page, Map<String, Method> face) throws IOException {
        for (String name : face.keySet()) {
            CHECK.due("names the call " + name, page.contains("`" + name + "`"), true);
        }
        try (DirectoryStream<Path> tests = Files.newDirectoryStream(Path.of("src/test/java"), "*Test.java")) {
            for (Path test : tests) {
                String name = test.getFileName().toString().replace(".java", "");
                CHECK.due("names the test " + name, page.contains("`" + name + "`"), true);
            }
        }
    }

    public static void main(String[] args) throws IOException, ReflectiveOperationException {
        String page = Files.readString(Path.of("README.md"), StandardCharsets.UTF_8);
        Map<String, Method> face = face();
        example(block(page, "java"), face);
        TalkTables y = new TalkTables();
        CHECK.due("its text is one", Check.text(y, block(page, "text")), 1);
        CHECK.due("its tree is right", y.tree(0, 4), 0);
        names(page, face);
        CHECK.finish("readme");
    }
}
