import java.lang.reflect.Field;
import java.lang.reflect.Member;
import java.lang.reflect.Method;
import java.lang.reflect.Modifier;
import java.nio.charset.StandardCharsets;
import java.nio.file.Files;
import java.nio.file.Path;
import java.util.Arrays;
import java.util.List;
import java.util.Set;
import java.util.TreeSet;
import java.util.function.Supplier;
import java.util.regex.Matcher;
import java.util.regex.Pattern;

/** The face is the document's and nothing more; the source keeps to what LANGUAGE.md leaves. */
public final class RulesTest {
    private static final Due DUE = new Due("RulesTest");
    private static final String[] FACE = {
        "int type(long, int)", "int clear()", "int children()", "int child(int, int)", "int now(int)",
        "int errs(int, int)", "int call(int)", "int comesBack(int)", "int undo()", "int lot(int)",
        "long falls(int, int, int)", "long many(int, int, int)", "long stays(int, int, int)",
        "long left(int, int)", "int best(int)", "int lure(int, int)", "int could(int)", "int likeliest(int)",
        "int rate(int, int)", "int keep(int)", "int back(int)", "int count(int)", "long trace()",
        "SimonSays()", "BAD", "STATE", "FULL", "NONE", "NO"};
    private static final int[] ODD = {Integer.MIN_VALUE, Integer.MIN_VALUE + 1, -65536, -33, -2, -1, 0, 1, 2, 3, 4, 5, 6, 7, 9, 10,
        31, 32, 33, 63, 64, 200, 444, 1111, 1 << 16, 444444444, 1111111111, Integer.MAX_VALUE};
    private static final Pattern HEAD = Pattern.compile("( +)(?!if|for|while|switch|do\\b|else)\\w[^=]*\\(.*\\) \\{");
    private static final String[] FORBIDDEN = {
        "\\b(throw|throws|try|catch|finally|synchronized|assert|import|package|var|record|enum|instanceof)\\b",
        "->", "::", "\\w+Exception\\b", "\\bError\\b", "\\b(equals|hashCode|toString)\\b", "\\bSystem\\.(?!arraycopy)",
        "\\b(Thread|Random|Object|HashMap|Map|Set)\\b", "\"\\s*\\+|\\+\\s*\""};

    public static void main(String[] args) throws Exception {
        face();
        sizes();
        source();
        noCallThrows();
        noObjectIsMadeByACall();
        DUE.finish();
    }

    private static String types(Class<?>[] types) {
        StringBuilder all = new StringBuilder("(");
        for (Class<?> type : types) {
            all.append(all.length() > 1 ? ", " : "").append(type.getSimpleName());
        }
        return all.append(')').toString();
    }

    private static void face() {
        Set<String> open = new TreeSet<>();
        Set<String> openNames = new TreeSet<>();
        Set<String> hiddenNames = new TreeSet<>();
        for (Method method : SimonSays.class.getDeclaredMethods()) {
            (Modifier.isPrivate(method.getModifiers()) ? hiddenNames : openNames).add(method.getName());
            if (!Modifier.isPrivate(method.getModifiers())) {
                open.add(method.getReturnType().getSimpleName() + " " + method.getName() + types(method.getParameterTypes()));
                isPublic(method);
            }
        }
        for (Field field : SimonSays.class.getDeclaredFields()) {
            if (!Modifier.isPrivate(field.getModifiers())) {
                open.add(field.getName());
                isPublic(field);
                DUE.isTrue(field + " is constant", Modifier.isStatic(field.getModifiers()) && Modifier.isFinal(field.getModifiers()));
            }
        }
        for (var made : SimonSays.class.getDeclaredConstructors()) {
            open.add("SimonSays" + types(made.getParameterTypes()));
            isPublic(made);
        }
        DUE.isTrue("the face is " + open, open.equals(new TreeSet<>(Arrays.asList(FACE))));
        for (Class<?> inside : SimonSays.class.getDeclaredClasses()) {
            DUE.isTrue(inside + " is static", Modifier.isStatic(inside.getModifiers()));
            DUE.isTrue(inside + " is hidden", (inside.getModifiers() & (Modifier.PUBLIC | Modifier.PROTECTED)) == 0);
            for (Method method : inside.getDeclaredMethods()) {
                hiddenNames.add(method.getName());
            }
        }
        hiddenNames.retainAll(openNames);
        DUE.isTrue("names that stand for two: " + hiddenNames, hiddenNames.isEmpty());
    }

    private static void isPublic(Member member) {
        DUE.isTrue(member + " is public", Modifier.isPublic(member.getModifiers()));
    }

    /** Rule 11: some twelve classes, some twenty fields a class beside its constants, seven parameters. */
    private static void sizes() {
        Class<?>[] inside = SimonSays.class.getDeclaredClasses();
        DUE.isTrue("classes in the file: " + (inside.length + 1), inside.length + 1 <= 12);
        sizesOf(SimonSays.class);
        for (Class<?> one : inside) {
            sizesOf(one);
            DUE.isTrue("classes inside " + one, one.getDeclaredClasses().length == 0);
        }
    }

    private static void sizesOf(Class<?> one) {
        int fields = 0;
        for (Field field : one.getDeclaredFields()) {
            boolean fixed = Modifier.isStatic(field.getModifiers());
            fields += fixed ? 0 : 1;
            DUE.isTrue(field + " is final, if it is static", !fixed || Modifier.isFinal(field.getModifiers()));
        }
        DUE.isTrue("fields of " + one + ": " + fields, fields <= 20);
        for (Method method : one.getDeclaredMethods()) {
            DUE.isTrue(method + " takes seven parameters at most", method.getParameterCount() <= 7);
        }
    }

    private static void source() throws Exception {
        String source = Files.readString(Path.of("src/main/java/SimonSays.java"), StandardCharsets.ISO_8859_1);
        DUE.isTrue("all signs are 1 to 127", source.chars().allMatch(sign -> sign > 0 && sign < 128));
        String bare = source.replaceAll("(?s)/\\*.*?\\*/", "").replaceAll("//[^\n]*", "");
        for (String forbidden : FORBIDDEN) {
            Matcher matcher = Pattern.compile(forbidden).matcher(bare);
            DUE.isTrue("no " + forbidden, !matcher.find());
        }
        methodsAreShort(source.split("\n"));
    }

    /** Rule 11: some sixty lines. A method ends at the bracket that stands as far in as its head. */
    private static void methodsAreShort(String[] lines) {
        int methods = 0;
        for (int head = 0; head < lines.length; head++) {
            Matcher matcher = HEAD.matcher(lines[head]);
            if (matcher.matches()) {
                int end = head;
                while (!lines[end].equals(matcher.group(1) + "}")) {
                    end++;
                }
                methods++;
                DUE.isTrue(lines[head].trim() + " " + (end - head + 1) + " lines", end - head < 60);
            }
        }
        DUE.isTrue("methods that were looked at: " + methods, methods > 23);
    }

    /** Rule 7: for any arguments in any state. What throws ends this test, and so does what answers below a refusal. */
    private static void noCallThrows() {
        List<Supplier<SimonSays>> states = List.of(SimonSays::new, Refusals::amid, Refusals::full, Refusals::nobodyIn);
        for (Supplier<SimonSays> state : states) {
            for (int a : ODD) {
                oneArgument(state, a);
                for (int b : ODD) {
                    twoArguments(state, a, b);
                    for (int c : ODD) {
                        answered("falls", state.get().falls(a, b, c), -1);
                        answered("many", state.get().many(a, b, c), -1);
                        answered("stays", state.get().stays(a, b, c), -1);
                    }
                }
            }
        }
    }

    private static void oneArgument(Supplier<SimonSays> state, int a) {
        answered("now", state.get().now(a), -1);
        answered("call", state.get().call(a), -2);
        answered("comesBack", state.get().comesBack(a), -2);
        answered("lot", state.get().lot(a), Integer.MIN_VALUE);
        answered("best", state.get().best(a), -1);
        answered("could", state.get().could(a), -1);
        answered("likeliest", state.get().likeliest(a), -9);
        answered("keep", state.get().keep(a), -1);
        answered("back", state.get().back(a), -2);
        answered("count", state.get().count(a), -1);
    }

    private static void twoArguments(Supplier<SimonSays> state, int a, int b) {
        answered("type", state.get().type((long) a << 32 ^ b, b), -3);
        answered("child", state.get().child(a, b), -9);
        answered("errs", state.get().errs(a, b), -2);
        answered("left", state.get().left(a, b), -1);
        answered("lure", state.get().lure(a, b), -9);
        answered("rate", state.get().rate(a, b), -1000000);
    }

    private static void answered(String call, long answer, long least) {
        DUE.isTrue(call + " answered " + answer, answer >= least);
    }

    /** All calls of one run live in one room: whatever they ask, they must not fill it. */
    private static void noObjectIsMadeByACall() {
        var threads = (com.sun.management.ThreadMXBean) java.lang.management.ManagementFactory.getThreadMXBean();
        long least = Long.MAX_VALUE;
        // the first runs also count what the machine itself loads
        for (int run = 0; run < 5; run++) {
            SimonSays x = Due.told("child 1 1 9;child 2 1 0;child 3 1 9;child 4 1 2;child 5 1 3;child 6 1 9;little 3;");
            long before = threads.getCurrentThreadAllocatedBytes();
            for (int time = 0; time < 25; time++) {
                callAll(x);
            }
            least = Math.min(least, threads.getCurrentThreadAllocatedBytes() - before);
        }
        DUE.isTrue("bytes made by 500 calls: " + least, least < 1000);
    }

    private static void callAll(SimonSays x) {
        x.type(0x6368696c6420L, 6);
        x.children();
        x.clear();
        x.child(5, 5);
        x.now(2);
        x.errs(0, 2);
        x.call(3);
        x.comesBack(0);
        x.undo();
        x.falls(2, 0, 0);
        x.many(2, 1, 0);
        x.stays(0, 123412341, 1);
        x.left(234, 0);
        x.best(3);
        x.lure(0, 9);
        x.could(0);
        x.likeliest(0);
        x.rate(4, 0);
        x.keep(0);
        x.back(0);
    }
}
