import java.io.PrintWriter;
import java.io.StringWriter;
import java.util.ArrayList;
import java.util.List;
import java.util.Map;
import java.util.Set;
import java.util.TreeMap;
import java.util.TreeSet;
import java.util.regex.Matcher;
import java.util.regex.Pattern;
import java.util.spi.ToolProvider;

/** What the compiled class calls: of the library no more than it may, and no deeper than it may. */
public final class CallsTest {
    private static final Due DUE = new Due("CallsTest");
    /** Rule 11. */
    private static final int DEEPEST = 8;
    /** Of what rule 4 lists, what the class needs; the constructor of Object is every object's. */
    private static final Set<String> LIBRARY = Set.of("java/lang/Object.<init>", "java/lang/String.length",
        "java/lang/String.charAt", "java/lang/Math.min", "java/lang/Integer.bitCount", "java/lang/System.arraycopy");
    private static final Pattern CLASS = Pattern.compile(".*\\bclass ([\\w$]+).*\\{");
    private static final Pattern METHOD = Pattern.compile("  (?:.* )?([\\w$]+)\\(.*\\);");
    private static final Pattern CALL = Pattern.compile(".* invoke\\w+ .*// \\w+ (?:([\\w$/]+)\\.)?\"?([\\w<>$#:]+?)\"?:\\(.*");

    private final Map<String, Set<String>> calls = new TreeMap<>();
    private String inside = "";
    private String caller = "";

    public static void main(String[] args) {
        CallsTest test = new CallsTest();
        for (String line : compiled().split("\n")) {
            test.readLine(line.stripTrailing());
        }
        test.allWereRead();
        test.library();
        test.depth();
        DUE.finish();
    }

    private static String compiled() {
        List<String> asked = new ArrayList<>(List.of("-c", "-p", "-cp", System.getProperty("java.class.path"), "SimonSays"));
        for (Class<?> one : SimonSays.class.getDeclaredClasses()) {
            asked.add(one.getName());
        }
        StringWriter out = new StringWriter();
        PrintWriter writer = new PrintWriter(out);
        ToolProvider javap = ToolProvider.findFirst("javap").orElseThrow();
        DUE.is("javap", javap.run(writer, writer, asked.toArray(new String[0])), 0);
        return out.toString();
    }

    private void readLine(String line) {
        Matcher head = CLASS.matcher(line);
        Matcher method = METHOD.matcher(line);
        if (head.matches()) {
            inside = head.group(1);
        } else if (method.matches()) {
            caller = inside + "." + (method.group(1).equals(inside) ? "<init>" : method.group(1));
            DUE.isTrue(caller + " is there once", calls.put(caller, new TreeSet<>()) == null);
        } else if (line.contains(" invoke")) {
            Matcher call = CALL.matcher(line);
            DUE.isTrue("a call that can be read: " + line, call.matches());
            String of = call.group(1) == null ? inside : call.group(1);
            calls.get(caller).add(of + "." + call.group(2));
        }
        DUE.isTrue("nothing throws: " + line, !line.contains(" athrow") && !line.contains("Exception table"));
    }

    /** A method that was not read would let what follows hold without meaning. */
    private void allWereRead() {
        int due = methodsOf(SimonSays.class);
        for (Class<?> one : SimonSays.class.getDeclaredClasses()) {
            due += methodsOf(one);
        }
        DUE.is("methods that were read", calls.size(), due);
    }

    private static int methodsOf(Class<?> one) {
        return one.getDeclaredMethods().length + one.getDeclaredConstructors().length;
    }

    private void library() {
        for (Map.Entry<String, Set<String>> one : calls.entrySet()) {
            for (String called : one.getValue()) {
                DUE.isTrue(one.getKey() + " may call " + called, calls.containsKey(called) || LIBRARY.contains(called));
            }
        }
    }

    /** The library's own methods count, too; what calls itself goes deeper than any limit. */
    private void depth() {
        for (String method : calls.keySet()) {
            DUE.isTrue(method + " goes " + DEEPEST + " deep at most", !goesDeeper(method, DEEPEST));
        }
    }

    private boolean goesDeeper(String method, int levels) {
        if (levels == 0) {
            return true;
        }
        for (String called : calls.getOrDefault(method, Set.of())) {
            if (goesDeeper(called, levels - 1)) {
                return true;
            }
        }
        return false;
    }
}
