import java.io.IOException;
import java.lang.management.ManagementFactory;
import java.lang.reflect.Field;
import java.lang.reflect.Method;
import java.lang.reflect.Modifier;
import java.nio.file.Files;
import java.nio.file.Path;
import java.util.ArrayList;
import java.util.Arrays;
import java.util.List;
import java.util.TreeSet;
import java.util.regex.Matcher;
import java.util.regex.Pattern;

/** Rules of LANGUAGE.md that can be seen from the source, from the compiled face, and from what calls allocate. */
public final class LanguageTest {
    private static final Path SOURCE = Path.of("src/main/java/CrossedKnots.java");
    private static final Path DOCUMENT = Path.of("../shared/DOC.md");

    public static void main(String[] args) throws IOException {
        face();
        inside();
        source();
        lengths();
        room();
        Due.end("LanguageTest");
    }

    private static void face() throws IOException {
        String document = Files.readString(DOCUMENT);
        Matcher promised = Pattern.compile("public int (\\w+)\\(([^)]*)\\);").matcher(document);
        TreeSet<String> wanted = new TreeSet<>();
        while (promised.find()) {
            String types = promised.group(2).replaceAll("(int|long) \\w+", "$1").replace(" ", "");
            wanted.add(promised.group(1) + "(" + types + ")");
        }
        TreeSet<String> found = new TreeSet<>();
        TreeSet<String> names = new TreeSet<>();
        for (Method m : CrossedKnots.class.getDeclaredMethods()) {
            if (Modifier.isPublic(m.getModifiers())) {
                List<String> types = new ArrayList<>();
                for (Class<?> type : m.getParameterTypes()) {
                    types.add(type.getName());
                }
                found.add(m.getName() + "(" + String.join(",", types) + ")");
                names.add(m.getName());
                Due.same(m.getName() + " answers", m.getReturnType().getName(), "int");
            }
        }
        Due.due("42 methods", wanted.size(), 42);
        Due.same("the face", found.toString(), wanted.toString());
        Due.due("the table of calls", Arrays.asList(CallTable.NAMES).containsAll(names) ? 1 : 0, 1);
        Due.due("public and final", CrossedKnots.class.getModifiers(), Modifier.PUBLIC | Modifier.FINAL);
        Due.due("one constructor", CrossedKnots.class.getDeclaredConstructors().length, 1);
        Due.due("which is public", CrossedKnots.class.getConstructors().length, 1);
        for (Method m : CrossedKnots.class.getDeclaredMethods()) {
            boolean hidden = Modifier.isPrivate(m.getModifiers()) && !names.contains(m.getName());
            Due.due(m.getName() + " is public or private", Modifier.isPublic(m.getModifiers()) || hidden ? 1 : 0, 1);
        }
        for (Class<?> c : CrossedKnots.class.getDeclaredClasses()) {
            for (Method m : c.getDeclaredMethods()) {
                Due.due(c.getName() + "." + m.getName() + " has a name of its own", names.contains(m.getName()) ? 1 : 0, 0);
            }
        }
    }

    private static void inside() {
        List<Class<?>> all = new ArrayList<>(Arrays.asList(CrossedKnots.class.getDeclaredClasses()));
        for (Class<?> c : all) {
            int kind = c.getModifiers();
            Due.due(c.getName() + " is static", Modifier.isStatic(kind) || c.isEnum() ? 1 : 0, 1);
            Due.due(c.getName() + " is not public", kind & (Modifier.PUBLIC | Modifier.PROTECTED), 0);
        }
        all.add(CrossedKnots.class);
        Due.due("some twelve classes", all.size() <= 12 ? 1 : 0, 1);
        for (Class<?> c : all) {
            int fields = 0;
            for (Field f : c.getDeclaredFields()) {
                int kind = f.getModifiers();
                fields += Modifier.isStatic(kind) ? 0 : 1;
                Due.due(f + " is final if static", Modifier.isStatic(kind) && !Modifier.isFinal(kind) ? 1 : 0, 0);
                boolean shown = c == CrossedKnots.class && !Modifier.isPrivate(kind);
                Due.due(f + " is private", shown ? 1 : 0, 0);
            }
            Due.due(c.getName() + " has some twenty fields", fields <= 20 ? 1 : 0, 1);
            for (Method m : c.getDeclaredMethods()) {
                Due.due(m + " takes at most seven", m.getParameterCount() <= 7 ? 1 : 0, 1);
            }
        }
    }

    private static String code() throws IOException {
        return Files.readString(SOURCE).replaceAll("(?s)/\\*.*?\\*/", "").replaceAll("//[^\n]*", "");
    }

    private static void source() throws IOException {
        String code = code();
        String[] refused = {"\\bthrow", "\\btry\\b", "\\bcatch\\b", "\\bfinally\\b", "\\bsynchronized\\b", "\\bassert\\b",
            "->", "::", "\\bimport\\b", "\\bpackage\\b", "\\bhashCode\\b", "\\btoString\\b", "\\bequals\\b", "Exact\\(",
            "\\bdouble\\b", "\\bfloat\\b", "\\bObject\\b", "\\bvolatile\\b", "\\bnative\\b", "static *\\{", "@",
            "\"", "\\bvar\\b", "\\bSystem\\.(?!arraycopy)", "\\bprotected\\b", "\\bextends\\b"};
        for (String r : refused) {
            Due.due("the source has no " + r, Pattern.compile(r).matcher(code).find() ? 1 : 0, 0);
        }
        for (char c : Files.readString(SOURCE).toCharArray()) {
            if (c > 126 || (c < 32 && c != '\n')) {
                Due.due("a sign of the source", c, 'x');
            }
        }
    }

    /** A method's lines, from its head to the brace that closes it. */
    private static void lengths() throws IOException {
        String[] lines = code().split("\n");
        Pattern head = Pattern.compile("^( {4}| {8})[a-z][\\w\\[\\] ]* \\w+\\([^;]*\\) \\{$");
        int methods = 0;
        for (int i = 0; i < lines.length; i++) {
            Matcher m = head.matcher(lines[i]);
            if (m.matches() && !lines[i].matches(" *(if|for|while|switch|else).*")) {
                int end = i;
                while (end < lines.length && !lines[end].equals(m.group(1) + "}")) {
                    end++;
                }
                methods++;
                Due.due("lines of " + lines[i].trim(), end - i < 60 ? 1 : 0, 1);
            }
        }
        Due.due("methods were found", methods > 100 ? 1 : 0, 1);
    }

    /** All calls of a run live in one room: no call may make anything. */
    private static void room() {
        if (!(ManagementFactory.getThreadMXBean() instanceof com.sun.management.ThreadMXBean)) {
            return;
        }
        com.sun.management.ThreadMXBean bean = (com.sun.management.ThreadMXBean) ManagementFactory.getThreadMXBean();
        if (!bean.isThreadAllocatedMemorySupported()) {
            return;
        }
        long id = Thread.currentThread().getId();
        long[] a = new long[5];
        calls(a);
        bean.getThreadAllocatedBytes(id);
        CrossedKnots x = new CrossedKnots();
        long before = bean.getThreadAllocatedBytes(id);
        int calls = 0;
        for (int i = 0; i < 200; i++) {
            calls += round(x, a, i);
        }
        long bytes = bean.getThreadAllocatedBytes(id) - before;
        Due.due("bytes that " + calls + " calls made, less than one each", bytes < calls ? 1 : 0, 1);
        before = bean.getThreadAllocatedBytes(id);
        new CrossedKnots();
        bytes = bean.getThreadAllocatedBytes(id) - before;
        Due.due("bytes that an object makes (" + bytes + ")", bytes < 12000 ? 1 : 0, 1);
    }

    private static void calls(long[] a) {
        CrossedKnots x = new CrossedKnots();
        for (int i = 0; i < 200; i++) {
            round(x, a, i);
        }
    }

    private static int round(CrossedKnots x, long[] a, int i) {
        for (int k = 0; k < CallTable.NAMES.length; k++) {
            a[0] = (i + k) % 8;
            a[1] = i % 3 == 0 ? 1 : i % 5;
            a[2] = i % 7 - 1;
            a[3] = i % 4;
            a[4] = i % 5;
            CallTable.onProgram(x, CallTable.NAMES[k], a);
        }
        return CallTable.NAMES.length;
    }
}
