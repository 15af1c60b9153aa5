import java.lang.reflect.Field;
import java.lang.reflect.Member;
import java.lang.reflect.Method;
import java.lang.reflect.Modifier;
import java.nio.charset.StandardCharsets;
import java.nio.file.Files;
import java.nio.file.Path;
import java.util.Arrays;
import java.util.Set;
import java.util.TreeSet;
import java.util.regex.Matcher;
import java.util.regex.Pattern;

/** The face is the document's and nothing more; the source keeps to what LANGUAGE.md leaves. */
public final class RulesTest {
    private static final Due DUE = new Due("RulesTest");
    private static final String[] FACE = {
        "int type(long, int)", "int clear()", "int children()", "int child(int, int)", "int now(int)",
        "int errs(int, int)", "int call(int)", "int comesBack(int)", "int undo()", "int lot(int)",
        "long falls(int, int, int)", "long many(int, int, int)", "long stays(int, int, int)",
        "long left(int, int)", "int best(int)", "int lure(int, int)", "int could(int)", "int likeliest(int)",
        "int rate(int, int)", "int keep(int)", "int back(int)", "int count(int)", "long trace()",
        "SimonSays()", "BAD", "STATE", "FULL", "NONE", "NO"};
    private static final String[] FORBIDDEN = {
        "\\b(throw|throws|try|catch|finally|synchronized|assert|import|package|var|record|enum|instanceof)\\b",
        "->", "::", "\\w+Exception\\b", "\\bError\\b", "\\b(equals|hashCode|toString)\\b", "\\bSystem\\.(?!arraycopy)",
        "\\b(Thread|Random|Object|HashMap|Map|Set)\\b", "\"\\s*\\+|\\+\\s*\""};

    public static void main(String[] args) throws Exception {
        face();
        source();
        noObjectIsMadeByACall();
        DUE.finish();
    }

    private static String types(Class<?>[] types) {
        StringBuilder all = new StringBuilder("(");
        for (Class<?> type : types) {
            all.append(all.length() > 1 ? ", " : "").append(type.getSimpleName());
        }
        return all.append(')').toString();
    }

    private static void face() {
        Set<String> open = new TreeSet<>();
        Set<String> openNames = new TreeSet<>();
        Set<String> hiddenNames = new TreeSet<>();
        for (Method method : SimonSays.class.getDeclaredMethods()) {
            (Modifier.isPrivate(method.getModifiers()) ? hiddenNames : openNames).add(method.getName());
            if (!Modifier.isPrivate(method.getModifiers())) {
                open.add(method.getReturnType().getSimpleName() + " " + method.getName() + types(method.getParameterTypes()));
                isPublic(method);
            }
        }
        for (Field field : SimonSays.class.getDeclaredFields()) {
            if (!Modifier.isPrivate(field.getModifiers())) {
                open.add(field.getName());
                isPublic(field);
                DUE.isTrue(field + " is constant", Modifier.isStatic(field.getModifiers()) && Modifier.isFinal(field.getModifiers()));
            }
        }
        for (var made : SimonSays.class.getDeclaredConstructors()) {
            open.add("SimonSays" + types(made.getParameterTypes()));
            isPublic(made);
        }
        DUE.isTrue("the face is " + open, open.equals(new TreeSet<>(Arrays.asList(FACE))));
        for (Class<?> inside : SimonSays.class.getDeclaredClasses()) {
            DUE.isTrue(inside + " is static", Modifier.isStatic(inside.getModifiers()));
            DUE.isTrue(inside + " is hidden", (inside.getModifiers() & (Modifier.PUBLIC | Modifier.PROTECTED)) == 0);
            for (Method method : inside.getDeclaredMethods()) {
                hiddenNames.add(method.getName());
            }
        }
        hiddenNames.retainAll(openNames);
        DUE.isTrue("names that stand for two: " + hiddenNames, hiddenNames.isEmpty());
    }

    private static void isPublic(Member member) {
        DUE.isTrue(member + " is public", Modifier.isPublic(member.getModifiers()));
    }

    private static void source() throws Exception {
        String source = Files.readString(Path.of("src/main/java/SimonSays.java"), StandardCharsets.ISO_8859_1);
        DUE.isTrue("all signs are 1 to 127", source.chars().allMatch(sign -> sign > 0 && sign < 128));
        String bare = source.replaceAll("(?s)/\\*.*?\\*/", "").replaceAll("//[^\n]*", "");
        for (String forbidden : FORBIDDEN) {
            Matcher matcher = Pattern.compile(forbidden).matcher(bare);
            DUE.isTrue("no " + forbidden, !matcher.find());
        }
    }

    /** All calls of one run live in one room: whatever they ask, they must not fill it. */
    private static void noObjectIsMadeByACall() {
        var threads = (com.sun.management.ThreadMXBean) java.lang.management.ManagementFactory.getThreadMXBean();
        long least = Long.MAX_VALUE;
        // the first runs also count what the machine itself loads
        for (int run = 0; run < 5; run++) {
            SimonSays x = Due.told("child 1 1 9;child 2 1 0;child 3 1 9;child 4 1 2;child 5 1 3;child 6 1 9;little 3;");
            long before = threads.getCurrentThreadAllocatedBytes();
            for (int time = 0; time < 25; time++) {
                callAll(x);
            }
            least = Math.min(least, threads.getCurrentThreadAllocatedBytes() - before);
        }
        DUE.isTrue("bytes made by 500 calls: " + least, least < 1000);
    }

    private static void callAll(SimonSays x) {
        x.type(0x6368696c6420L, 6);
        x.children();
        x.clear();
        x.child(5, 5);
        x.now(2);
        x.errs(0, 2);
        x.call(3);
        x.comesBack(0);
        x.undo();
        x.falls(2, 0, 0);
        x.many(2, 1, 0);
        x.stays(0, 123412341, 1);
        x.left(234, 0);
        x.best(3);
        x.lure(0, 9);
        x.could(0);
        x.likeliest(0);
        x.rate(4, 0);
        x.keep(0);
        x.back(0);
    }
}
