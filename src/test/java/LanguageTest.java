import java.lang.reflect.Constructor;
import java.lang.reflect.Field;
import java.lang.reflect.Member;
import java.lang.reflect.Method;
import java.lang.reflect.Modifier;
import java.nio.file.Files;
import java.nio.file.Path;
import java.util.Arrays;
import java.util.List;
import java.util.TreeSet;
import java.util.regex.Matcher;
import java.util.regex.Pattern;
import java.util.stream.Collectors;

/** The rules of LANGUAGE.md that a look at the text can tell. */
public final class LanguageTest {
    /** Rule 1: the document's face, and no other member that is not private. */
    private static final String[] FACE = {
        "public static final int BAD = -1", "public static final int NONE = -2", "public static final int FULL = -3",
        "public CraftHouse()",
        "public int feed(int, int)", "public int taped(int)", "public int wipe()", "public int check()", "public int code(int)",
        "public int bits(int)", "public int bit(int, int)", "public int carry(int, int)", "public int turn(int, int)",
        "public int slip(int, int)", "public int lose(int, int)", "public int inject(int)",
        "public int build(int, int, int)", "public int request(int, int, int, boolean)", "public int requests()",
        "public int became(int, int)", "public int direct(int, int)", "public int machine(int)",
        "public int ear(int, int)", "public int came(int)", "public int archived(int, int)", "public int archivedByte(int, int)",
        "public int shown(int, int)", "public int tick(int)", "public int sense(int, int)", "public int parameter(int)",
        "public int memory(int)", "public int craft(int)", "public int structure(int, int)", "public int watch(int, int)",
        "public int event(int, int)", "public int entry(int, int)", "public int store(int, int)"};

    private static int wrong = 0;

    private LanguageTest() {
    }

    public static void main(String[] args) throws Exception {
        String text = Files.readString(Path.of("src/main/java/CraftHouse.java"));
        String code = text.replaceAll("(?s)/\\*.*?\\*/", "").replaceAll("//[^\n]*", "").replaceAll("\"[^\"\n]*\"", "\"\"");
        for (String word : new String[] {"throw", "throws", "try", "catch", "finally", "synchronized", "assert", "package",
            "volatile", "native", "double", "float", "protected"}) {
            none("the word " + word, code, "\\b" + word + "\\b");
        }
        none("a lambda or a method reference", code, "->|::");
        none("a static block", code, "static\\s*\\{");
        none("a static field that is not final", code, "\\bstatic\\s+(?!final\\b)[\\w\\[\\]]+\\s+\\w+\\s*[=;]");
        none("a method whose name ends in Exact", code, "Exact\\s*\\(");
        none("an inner class that is not static", code, "(?<!static final )\\bclass\\s+(?!CraftHouse\\b)\\w+");
        none("an import but Arrays", code, "import (?!java\\.util\\.Arrays;)");
        none("a while without a counter", code, "\\bwhile\\b");
        dueAtMost("classes", count(code, "\\bclass\\s+\\w+"), 12);
        face();
        names(code);
        methods(code);
        System.out.println(wrong == 0 ? "the text keeps to the rules" : "the text breaks rules");
        if (wrong != 0) {
            System.exit(1);
        }
    }

    private static void none(String what, String code, String pattern) {
        Matcher found = Pattern.compile(pattern).matcher(code);
        if (found.find()) {
            wrong++;
            System.out.println("there is " + what + ": " + found.group());
        }
    }

    private static int count(String code, String pattern) {
        return (int) Pattern.compile(pattern).matcher(code).results().count();
    }

    private static void dueAtMost(String what, int n, int most) {
        if (n > most) {
            wrong++;
            System.out.println(what + ": " + n + ", at most " + most);
        }
    }

    private static void face() throws IllegalAccessException {
        TreeSet<String> has = new TreeSet<>();
        for (Constructor<?> each : CraftHouse.class.getDeclaredConstructors()) {
            add(has, each, "CraftHouse" + types(each.getParameterTypes()));
        }
        for (Method each : CraftHouse.class.getDeclaredMethods()) {
            add(has, each, each.getReturnType().getSimpleName() + " " + each.getName() + types(each.getParameterTypes()));
        }
        for (Field each : CraftHouse.class.getDeclaredFields()) {
            if (!Modifier.isPrivate(each.getModifiers())) {
                boolean constant = Modifier.isStatic(each.getModifiers()) && each.getType() == int.class;
                add(has, each, each.getType().getSimpleName() + " " + each.getName() + (constant ? " = " + each.getInt(null) : ""));
            }
        }
        TreeSet<String> due = new TreeSet<>(Arrays.asList(FACE));
        for (String each : due) {
            dueAtMost("members of the face that are not there: " + each, has.contains(each) ? 0 : 1, 0);
        }
        for (String each : has) {
            dueAtMost("members that are none of the face: " + each, due.contains(each) ? 0 : 1, 0);
        }
        dueAtMost("the class is not public and final", CraftHouse.class.getModifiers() == (Modifier.PUBLIC | Modifier.FINAL) ? 0 : 1, 0);
    }

    private static void add(TreeSet<String> to, Member member, String text) {
        if (!Modifier.isPrivate(member.getModifiers())) {
            to.add((Modifier.toString(member.getModifiers()) + " " + text).trim());
        }
    }

    private static String types(Class<?>[] types) {
        return Arrays.stream(types).map(Class::getSimpleName).collect(Collectors.joining(", ", "(", ")"));
    }

    private static void names(String code) {
        List<String> face = Arrays.stream(CraftHouse.class.getDeclaredMethods())
            .filter(each -> Modifier.isPublic(each.getModifiers()))
            .map(each -> each.getName()).toList();
        for (Class<?> inside : CraftHouse.class.getDeclaredClasses()) {
            int fields = 0;
            for (Field field : inside.getDeclaredFields()) {
                fields += Modifier.isStatic(field.getModifiers()) ? 0 : 1;
            }
            dueAtMost("fields of " + inside.getSimpleName(), fields, 20);
            for (Method method : inside.getDeclaredMethods()) {
                dueAtMost(method.getName() + " bears a name of the face", face.contains(method.getName()) ? 1 : 0, 0);
                dueAtMost("parameters of " + method.getName(), method.getParameterCount(), 7);
            }
        }
        for (Method method : CraftHouse.class.getDeclaredMethods()) {
            boolean hidden = Modifier.isPrivate(method.getModifiers());
            dueAtMost(method.getName() + " bears a name of the face", hidden && face.contains(method.getName()) ? 1 : 0, 0);
        }
    }

    /** Methods begin with four or eight blanks here, and end with a brace as far in. */
    private static void methods(String code) {
        Matcher method = Pattern.compile("(?m)^( {4}| {8})(?! |private static final class)[^;=\n]*\\) \\{$").matcher(code);
        int n = 0;
        while (method.find()) {
            n++;
            int end = code.indexOf("\n" + method.group(1) + "}", method.end());
            int lines = end < 0 ? 0 : count(code.substring(method.start(), end), "\n");
            dueAtMost("lines of " + method.group().trim(), lines, 60);
        }
        dueAtMost("methods were not found", n > 200 ? 0 : 1, 0);
    }
}
