import java.io.IOException;
import java.lang.reflect.Constructor;
import java.lang.reflect.Field;
import java.lang.reflect.Member;
import java.lang.reflect.Method;
import java.lang.reflect.Modifier;
import java.nio.charset.StandardCharsets;
import java.nio.file.Files;
import java.nio.file.Path;
import java.util.Set;
import java.util.TreeSet;
import java.util.regex.Matcher;
import java.util.regex.Pattern;

/** The face, and the rules of LANGUAGE.md that can be read off the class and its source. */
public final class LanguageTest {
    private static final Check CHECK = new Check();

    private static final String FACE = "feed(int,int,int,int,int)int end(int)int text()int fault(int)int "
            + "about(int)int cell(int,int)int area(int,int,int)int greatest(int,int)int cover(int)int "
            + "full(int,int,int)int conflict(boolean,int,int)int around(int,int)int fooling(int,int)int "
            + "fools(int,int)int rank(int)int groups(boolean)int leaning(int)int best(int)int "
            + "byTurns(int)int node(int,int,int)int wrong(int)int bound(int)int answer(int,int,int)int "
            + "cost(int,int,int)int leaf(int,int,int)int bit(int,int,int,int)int tree(int,int)int "
            + "told(int,int,int)int graft(int,int,int)int apart(int,int)int put(int,int,int)int "
            + "turn()int undo()boolean";

    private static boolean isPrivate(Member member) {
        return Modifier.isPrivate(member.getModifiers());
    }

    private static String say(Method method) {
        StringBuilder text = new StringBuilder(method.getName()).append('(');
        for (Class<?> type : method.getParameterTypes()) {
            text.append(text.charAt(text.length() - 1) == '(' ? "" : ",").append(type.getSimpleName());
        }
        return text.append(')').append(method.getReturnType().getSimpleName()).toString();
    }

    private static void face() {
        Set<String> open = new TreeSet<>();
        Set<String> names = new TreeSet<>();
        for (Method method : TalkTables.class.getDeclaredMethods()) {
            if (!isPrivate(method)) {
                CHECK.due(say(method) + " is public", method.getModifiers(), Modifier.PUBLIC);
                open.add(say(method));
                names.add(method.getName());
            }
        }
        Set<String> due = new TreeSet<>(Set.of(FACE.split(" ")));
        CHECK.due("the face: " + open, open.equals(due), true);
        for (Field field : TalkTables.class.getDeclaredFields()) {
            CHECK.due(field.getName(), isPrivate(field), !field.getName().equals("NONE"));
        }
        Constructor<?>[] made = TalkTables.class.getDeclaredConstructors();
        CHECK.due("constructors", made.length, 1);
        CHECK.due("its parameters", made[0].getParameterCount(), 0);
        CHECK.due("public final", TalkTables.class.getModifiers(), Modifier.PUBLIC | Modifier.FINAL);
        Class<?>[] inside = TalkTables.class.getDeclaredClasses();
        CHECK.due("classes", inside.length <= 12, true);
        for (Class<?> own : inside) {
            CHECK.due(own + " is static", Modifier.isStatic(own.getModifiers()), true);
            members(own, names);
        }
        members(TalkTables.class, Set.of());
    }

    private static void members(Class<?> own, Set<String> publicNames) {
        int fields = 0;
        for (Field field : own.getDeclaredFields()) {
            boolean isStatic = Modifier.isStatic(field.getModifiers());
            fields += isStatic ? 0 : 1;
            CHECK.due(field + " is final", isStatic && !Modifier.isFinal(field.getModifiers()), false);
        }
        CHECK.due(own + " fields", fields <= 20, true);
        for (Method method : own.getDeclaredMethods()) {
            CHECK.due(method + " parameters", method.getParameterCount() <= 7, true);
            CHECK.due(method + " bears a public name", publicNames.contains(method.getName()), false);
        }
    }

    private static void source(String code) {
        for (int i = 0; i < code.length(); i++) {
            boolean plain = code.charAt(i) == '\n' || (code.charAt(i) >= 32 && code.charAt(i) < 127);
            CHECK.due("sign " + i, plain, true);
        }
        String bare = code.replaceAll("(?s)/\\*.*?\\*/", "").replaceAll("//[^\n]*", "");
        String[] none = {"\\bthrows?\\b", "\\btry\\b", "\\bcatch\\b", "\\bsynchronized\\b", "\\bassert\\b",
            "->", "::", "\\bimport\\b", "\\bpackage\\b", "\\bSystem\\b", "\"", "\\bdouble\\b",
            "\\bfloat\\b", "Exact\\b", "\\bequals\\b", "\\bhashCode\\b", "\\btoString\\b", "\\bnull\\b",
            "\\bprotected\\b", "\\bstatic \\{", "\\bwhile \\(true\\)", "for \\(;;\\)"};
        for (String word : none) {
            CHECK.due("has " + word, Pattern.compile(word).matcher(bare).find(), false);
        }
        Matcher library = Pattern.compile("\\b(Integer|Long|Math)\\.(\\w+)").matcher(bare);
        while (library.find()) {
            CHECK.due(library.group(), Set.of("bitCount", "max", "min").contains(library.group(2)), true);
        }
        lengths(code.split("\n"));
    }

    /** Methods stand four or eight deep and end with a brace of their own. */
    private static void lengths(String[] lines) {
        int[] begun = {-1, -1};
        for (int i = 0; i < lines.length; i++) {
            CHECK.due("length of line " + (i + 1), lines[i].length() <= 110, true);
            for (int deep = 0; deep < 2; deep++) {
                String indent = " ".repeat(4 + 4 * deep);
                if (lines[i].startsWith(indent) && lines[i].endsWith(") {")
                        && !lines[i].startsWith(indent + " ")) {
                    begun[deep] = i;
                } else if (lines[i].equals(indent + "}") && begun[deep] >= 0) {
                    CHECK.due("lines from " + (begun[deep] + 1), i - begun[deep] < 60, true);
                    begun[deep] = -1;
                }
            }
        }
    }

    public static void main(String[] args) throws IOException {
        face();
        source(Files.readString(Path.of("src/main/java/TalkTables.java"), StandardCharsets.ISO_8859_1));
        CHECK.finish("language");
    }
}
