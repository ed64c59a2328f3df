import java.lang.reflect.Method;
import java.nio.file.Files;
import java.nio.file.Path;
import java.util.regex.Matcher;
import java.util.regex.Pattern;

/** Makes the calls of the examples in README.md: the number ahead of a colon is the answer that is due. */
public final class ReadmeTest {
    private static final Pattern EXAMPLE = Pattern.compile("(?s)```java\n(.*?)```");
    private static final Pattern CALL = Pattern.compile("x\\.(\\w+)\\(([^)]*)\\);\\s*// (-?\\d+): .+");

    private ReadmeTest() {
    }

    public static void main(String[] args) throws Exception {
        Matcher example = EXAMPLE.matcher(Files.readString(Path.of("README.md")));
        int examples = 0;
        while (example.find()) {
            examples++;
            Kit.about("example " + examples);
            run(example.group(1).split("\n"));
        }
        Kit.due("examples of which there are some", examples > 0 ? 1 : 0, 1);
        Kit.end();
    }

    private static void run(String[] lines) throws Exception {
        CraftHouse x = null;
        for (String line : lines) {
            Matcher call = CALL.matcher(line);
            if (line.equals("CraftHouse x = new CraftHouse();")) {
                x = new CraftHouse();
            } else if (x != null && call.matches()) {
                Kit.due(line, answer(x, call.group(1), call.group(2)), Integer.parseInt(call.group(3)));
            } else {
                Kit.due("a line that tells no call and answer: " + line, 0, 1);
            }
        }
    }

    private static int answer(CraftHouse x, String name, String numbers) throws Exception {
        String[] words = numbers.isEmpty() ? new String[0] : numbers.split(", ");
        for (Method each : CraftHouse.class.getMethods()) {
            if (each.getName().equals(name) && each.getParameterCount() == words.length) {
                Object[] values = new Object[words.length];
                for (int i = 0; i < words.length; i++) {
                    values[i] = valueOf(words[i]);
                }
                return (Integer) each.invoke(x, values);
            }
        }
        throw new IllegalStateException("no call " + name);
    }

    private static Object valueOf(String word) {
        if (word.equals("true") || word.equals("false")) {
            return Boolean.valueOf(word);
        }
        return Integer.decode(word);
    }
}
