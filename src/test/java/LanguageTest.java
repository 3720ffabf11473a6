import java.io.IOException;
import java.lang.reflect.Constructor;
import java.lang.reflect.Method;
import java.nio.charset.StandardCharsets;
import java.nio.file.Files;
import java.nio.file.Path;
import java.util.List;

/** The class keeps to LANGUAGE.md, and the rules that look at it see what leaves it. */
public final class LanguageTest {
    private static final Path CLASS = Path.of("src/main/java/SpatialTables.java");
    private static final Checks checks = new Checks();

    public static void main(String[] args) throws Exception {
        List<String> faults = LanguageRules.faultsOf(Files.readString(CLASS, StandardCharsets.UTF_8));
        checks.due("the class leaves LANGUAGE.md: " + faults, 0, faults.size());
        rulesAcceptWhatIsFine();
        rulesSeeWhatIsNot();
        longParts();
        indexLooksAtItsRoom();
        checks.end();
    }

    private static void rulesAcceptWhatIsFine() throws IOException {
        fine("private static final int A = 3; int f(int x) { return x / A + x % 2; }");
        fine("int f(int x, int y) { return y > 0 ? x / y : 0; }");
        fine("int f(int n) { int s = 0; for (int i = 0; i < n; i++) { s += i; } return s; }");
        fine("int f(int n) { while (n > 0 && n != 7) { n--; } return n; }");
        fine("int f(int a, int b) { return Math.max(a, Math.min(b, Integer.bitCount(a))); }");
        fine("private static final class B { final int[] a = new int[3]; final int[][] c = new int[2][2]; }");
        fine("private static final class B { } B f() { return new B(); }");
    }

    private static void rulesSeeWhatIsNot() throws IOException {
        seen(1, "private final class B { }");
        seen(1, "public static final class B { }");
        seen(2, "void f() { class B { } }");
        seen(2, "void f() { Runnable r = () -> { }; }");
        seen(2, "void f() { Runnable r = SpatialTables::new; }");
        seen(3, "private Object o = null;");
        seen(3, "private int[][][] a = null;");
        seen(3, "private SpatialTables[][] a = null;");
        seen(4, "long f() { return System.nanoTime(); }");
        seen(4, "int f(int a) { return Math.addExact(a, a); }");
        seen(4, "Object f() { return new Object(); }");
        seen(5, "private static int a = 0;");
        seen(5, "private static final int[] A = new int[3];");
        seen(5, "private static final int A; static { A = 3; }");
        seen(6, "void f() { throw new IllegalStateException(); }");
        seen(6, "void f() { try { g(); } catch (RuntimeException e) { } } void g() { }");
        seen(6, "void f() { synchronized (this) { } }");
        seen(6, "void f(int a) { assert a > 0; }");
        seen(6, "public String toString() { return null; }");
        seen(7, "int f(int x, int y) { return x / y; }");
        seen(7, "int f(int x, int y) { return y > 0 ? 0 : x / y; }");
        seen(7, "int f(int x, int y) { x %= y; return x; }");
        seen(7, "int f(int x) { return x / 0; }");
        seen(8, "void f() { f(); }");
        seen(8, "void f() { g(); } void g() { f(); }");
        seen(9, "void f() { while (true) { } }");
        seen(9, "void f(int n) { for (;;) { } }");
        seen(9, "void f(int n) { for (int i = 0; i < n; i--) { } }");
        seen(9, "void f(int n) { for (int i = 0; i < n; i++) { i = 0; } }");
        seen(9, "void f(int n) { while (n != 0) { n--; } }");
        seen(10, "String f(int n) { return \"a\" + n; }");
        seen(11, "void f(int a, int b, int c, int d, int e, int g, int h, int i) { }");
        seen(12, "private static class B { B() { f(); } void f() { } }");
        seen(12, "private static class B { B() { g(this); } static void g(B b) { } }");
    }

    private static void longParts() throws IOException {
        seen(11, "void f() {" + "\n".repeat(60) + "}");
        StringBuilder fields = new StringBuilder();
        StringBuilder classes = new StringBuilder();
        StringBuilder calls = new StringBuilder("void f0() { }");
        for (int i = 1; i <= 21; i++) {
            fields.append("private int a").append(i).append(" = 0;");
            classes.append("private static final class B").append(i).append(" { }");
            calls.append("void f").append(i).append("() { f").append(i - 1).append("(); }");
        }
        seen(11, fields.toString());
        seen(11, classes.toString());
        seen(11, calls.toString());
    }

    private static String classWith(String members) {
        return "public final class SpatialTables {\n" + members + "\n}\n";
    }

    private static void fine(String members) throws IOException {
        List<String> faults = LanguageRules.faultsOf(classWith(members));
        checks.due("fine: " + members + " " + faults, 0, faults.size());
    }

    private static void seen(int rule, String members) throws IOException {
        List<String> faults = LanguageRules.faultsOf(classWith(members));
        boolean told = faults.stream().anyMatch(fault -> fault.startsWith("rule " + rule + ",")
            || fault.startsWith("rule " + rule + ":"));
        checks.due("rule " + rule + " sees: " + members + " " + faults, true, told);
    }

    /** Rule 7, "an index is looked at before it is used": more bounds than a table can have rows overrun nothing. */
    private static void indexLooksAtItsRoom() throws ReflectiveOperationException {
        Object index = made("SpatialTables$Index");
        Method add = method(index.getClass(), "add");
        boolean overran = false;
        for (int i = 0; i < 256; i++) {
            Object bound = made("SpatialTables$Bound", new int[] {i}, new int[] {255 - i});
            try {
                add.invoke(index, bound);
            } catch (ReflectiveOperationException thrown) {
                overran = true;
            }
        }
        checks.due("the index overran its room", false, overran);
    }

    private static Object made(String name, Object... parts) throws ReflectiveOperationException {
        Constructor<?> constructor = Class.forName(name).getDeclaredConstructors()[0];
        constructor.setAccessible(true);
        return constructor.newInstance(parts);
    }

    private static Method method(Class<?> owner, String name) {
        for (Method method : owner.getDeclaredMethods()) {
            if (method.getName().equals(name)) {
                method.setAccessible(true);
                return method;
            }
        }
        throw new IllegalStateException(name);
    }
}
