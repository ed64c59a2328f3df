import java.io.PrintWriter;
import java.io.StringWriter;
import java.nio.file.Files;
import java.nio.file.Path;
import java.util.ArrayDeque;
import java.util.Deque;
import java.util.Map;
import java.util.Set;
import java.util.TreeMap;
import java.util.TreeSet;
import java.util.regex.Matcher;
import java.util.regex.Pattern;
import java.util.spi.ToolProvider;
import java.util.stream.Stream;

/** The rules of LANGUAGE.md that the compiled class tells: calls, the library, where objects are made. */
public final class CompiledTest {
    private static final int DEEPEST = 8;
    private static final Set<String> LIBRARY = Set.of("java/lang/Object.<init>", "java/lang/Math.min", "java/lang/Math.max",
        "java/lang/Integer.bitCount", "java/lang/Integer.compare", "java/lang/System.arraycopy", "java/util/Arrays.fill");
    private static final Pattern CLASS = Pattern.compile("^(?:\\w+ )*class ([\\w$]+).*\\{$");
    private static final Pattern METHOD = Pattern.compile("^  (?! ).*?([\\w$]+)\\(.*\\);$");
    private static final Pattern CALL = Pattern.compile("invoke\\w+ .*// (?:Interface)?Method (?:([\\w$/]+)\\.)?\"?([\\w<>]+)\"?:");
    private static final Pattern MADE = Pattern.compile("^ +\\d+: (?:new|newarray|anewarray|multianewarray) ");
    private static final Pattern THROWN = Pattern.compile("^ +\\d+: athrow");

    private final Map<String, Set<String>> calls = new TreeMap<>();
    private final Set<String> makers = new TreeSet<>();
    private final Map<String, Integer> depths = new TreeMap<>();
    private final Deque<String> open = new ArrayDeque<>();

    private CompiledTest() {
    }

    public static void main(String[] args) throws Exception {
        ToolProvider javap = ToolProvider.findFirst("javap").orElse(null);
        if (javap == null) {
            System.out.println("not looked at: this Java has no javap");
            return;
        }
        CompiledTest test = new CompiledTest();
        test.read(javap);
        test.look();
        Kit.end();
    }

    private void read(ToolProvider javap) throws Exception {
        Path where = Path.of(CraftHouse.class.getProtectionDomain().getCodeSource().getLocation().toURI());
        try (Stream<Path> files = Files.list(where)) {
            for (Path file : files.filter(each -> each.getFileName().toString().matches("CraftHouse(\\$.*)?\\.class")).toList()) {
                StringWriter text = new StringWriter();
                javap.run(new PrintWriter(text), new PrintWriter(text), "-p", "-c", file.toString());
                readClass(text.toString().split("\\R"));
            }
        }
    }

    private void readClass(String[] lines) {
        String inside = "";
        String method = "";
        for (String line : lines) {
            Matcher head = CLASS.matcher(line);
            Matcher begun = METHOD.matcher(line);
            Matcher call = CALL.matcher(line);
            if (head.matches()) {
                inside = head.group(1);
            } else if (line.equals("  static {};")) {
                method = inside + ".<clinit>";
                calls.putIfAbsent(method, new TreeSet<>());
            } else if (begun.matches()) {
                String name = begun.group(1);
                method = inside + "." + (name.equals(inside) ? "<init>" : name);
                calls.putIfAbsent(method, new TreeSet<>());
            } else if (call.find()) {
                String of = call.group(1) == null ? inside : call.group(1);
                calls.get(method).add(of + "." + call.group(2));
            } else if (MADE.matcher(line).find()) {
                makers.add(method);
            } else if (THROWN.matcher(line).find()) {
                Kit.due("there is a throw in " + method, 1, 0);
            }
        }
    }

    private void look() {
        Kit.about("how deep calls go");
        for (String method : calls.keySet()) {
            Kit.due(method + " calls deeper than " + DEEPEST, depthOf(method) > DEEPEST ? 1 : 0, 0);
        }
        Kit.due("methods that were found", calls.size() > 200 ? 1 : 0, 1);
        Kit.about("the library");
        for (Map.Entry<String, Set<String>> each : calls.entrySet()) {
            for (String called : each.getValue()) {
                boolean known = calls.containsKey(called) || LIBRARY.contains(called);
                Kit.due(each.getKey() + " calls " + called, known ? 1 : 0, 1);
            }
        }
        Kit.about("objects are made in constructors alone");
        for (String method : makers) {
            boolean first = method.endsWith(">") || method.equals("CraftHouse$Blocks.noise");
            Kit.due(method + " makes objects", first ? 0 : 1, 0);
        }
        Kit.due("makers that were found", makers.size() > 10 ? 1 : 0, 1);
    }

    /** Methods of one name in a class count as one; a method that is open already is a recursion. */
    private int depthOf(String method) {
        if (depths.containsKey(method)) {
            return depths.get(method);
        }
        Kit.due(method + " calls itself by way of " + open, open.contains(method) ? 1 : 0, 0);
        if (open.contains(method)) {
            return DEEPEST + 1;
        }
        open.push(method);
        int deepest = 0;
        for (String called : calls.get(method)) {
            if (calls.containsKey(called)) {
                deepest = Math.max(deepest, depthOf(called));
            }
        }
        open.pop();
        depths.put(method, deepest + 1);
        return deepest + 1;
    }
}
