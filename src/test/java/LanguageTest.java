import java.nio.file.Files;
import java.nio.file.Path;
import java.util.Arrays;
import java.util.List;
import java.util.regex.Matcher;
import java.util.regex.Pattern;

/** The rules of LANGUAGE.md that a look at the text can tell. */
public final class LanguageTest {
    private static int wrong = 0;

    private LanguageTest() {
    }

    public static void main(String[] args) throws Exception {
        String text = Files.readString(Path.of("src/main/java/CraftHouse.java"));
        String code = text.replaceAll("(?s)/\\*.*?\\*/", "").replaceAll("//[^\n]*", "").replaceAll("\"[^\"\n]*\"", "\"\"");
        for (String word : new String[] {"throw", "throws", "try", "catch", "finally", "synchronized", "assert", "package",
            "volatile", "native", "double", "float", "protected"}) {
            none("the word " + word, code, "\\b" + word + "\\b");
        }
        none("a lambda or a method reference", code, "->|::");
        none("a static block", code, "static\\s*\\{");
        none("a static field that is not final", code, "\\bstatic\\s+(?!final\\b)[\\w\\[\\]]+\\s+\\w+\\s*[=;]");
        none("a method whose name ends in Exact", code, "Exact\\s*\\(");
        none("an inner class that is not static", code, "(?<!static final )\\bclass\\s+(?!CraftHouse\\b)\\w+");
        none("an import but Arrays", code, "import (?!java\\.util\\.Arrays;)");
        none("a while without a counter", code, "\\bwhile\\b");
        dueAtMost("classes", count(code, "\\bclass\\s+\\w+"), 12);
        names(code);
        methods(code);
        System.out.println(wrong == 0 ? "the text keeps to the rules" : "the text breaks rules");
        if (wrong != 0) {
            System.exit(1);
        }
    }

    private static void none(String what, String code, String pattern) {
        Matcher found = Pattern.compile(pattern).matcher(code);
        if (found.find()) {
            wrong++;
            System.out.println("there is " + what + ": " + found.group());
        }
    }

    private static int count(String code, String pattern) {
        return (int) Pattern.compile(pattern).matcher(code).results().count();
    }

    private static void dueAtMost(String what, int n, int most) {
        if (n > most) {
            wrong++;
            System.out.println(what + ": " + n + ", at most " + most);
        }
    }

    private static void names(String code) {
        List<String> face = Arrays.stream(CraftHouse.class.getDeclaredMethods())
            .filter(each -> java.lang.reflect.Modifier.isPublic(each.getModifiers()))
            .map(each -> each.getName()).toList();
        for (Class<?> inside : CraftHouse.class.getDeclaredClasses()) {
            int fields = 0;
            for (java.lang.reflect.Field field : inside.getDeclaredFields()) {
                fields += java.lang.reflect.Modifier.isStatic(field.getModifiers()) ? 0 : 1;
            }
            dueAtMost("fields of " + inside.getSimpleName(), fields, 20);
            for (java.lang.reflect.Method method : inside.getDeclaredMethods()) {
                dueAtMost(method.getName() + " bears a name of the face", face.contains(method.getName()) ? 1 : 0, 0);
                dueAtMost("parameters of " + method.getName(), method.getParameterCount(), 7);
            }
        }
        for (java.lang.reflect.Method method : CraftHouse.class.getDeclaredMethods()) {
            boolean hidden = java.lang.reflect.Modifier.isPrivate(method.getModifiers());
            dueAtMost(method.getName() + " bears a name of the face", hidden && face.contains(method.getName()) ? 1 : 0, 0);
        }
    }

    /** Methods begin with four or eight blanks here, and end with a brace as far in. */
    private static void methods(String code) {
        Matcher method = Pattern.compile("(?m)^( {4}| {8})(?! |private static final class)[^;=\n]*\\) \\{$").matcher(code);
        int n = 0;
        while (method.find()) {
            n++;
            int end = code.indexOf("\n" + method.group(1) + "}", method.end());
            int lines = end < 0 ? 0 : count(code.substring(method.start(), end), "\n");
            dueAtMost("lines of " + method.group().trim(), lines, 60);
        }
        dueAtMost("methods were not found", n > 200 ? 0 : 1, 0);
    }
}
