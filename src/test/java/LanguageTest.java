import java.io.IOException;
import java.nio.file.Files;
import java.nio.file.Path;
import java.util.List;

/** The source keeps to LANGUAGE.md, as far as Language sees; and Language sees what it says it does. */
public final class LanguageTest {
    // a rule's number, and what breaks it
    private static final String[][] BROKEN = {
        {"2", "class Inner { }"},
        {"2", "int f() { Object o = new Object() { }; return 0; }"},
        {"2", "int f() { Runnable r = () -> { }; return 0; }"},
        {"3", "private Object some;"},
        {"3", "private String[] texts;"},
        {"3", "private int[][][] rows;"},
        {"4", "private int f() { return Math.addExact(1, 2); }"},
        {"4", "private long f() { return System.nanoTime(); }"},
        {"4", "private int f() { return java.util.Objects.hash(1); }"},
        {"5", "private static int made = 0;"},
        {"5", "private static final double HALF = 0.5;"},
        {"5", "private static final int[] ROW = new int[3];"},
        {"5", "private static final int[] ROW = {1}; private void f() { ROW[0] = 2; }"},
        {"5", "private static final int[] ROW = {1}; private void f() { ROW[0] += 2; }"},
        {"5", "{ System.exit(0); }"},
        {"6", "private int f() { throw new IllegalArgumentException(); }"},
        {"6", "private int f() { try { return 1; } finally { } }"},
        {"6", "private void f() { synchronized (this) { } }"},
        {"6", "private void f(int a) { assert a > 0; }"},
        {"6", "private int f(long a) { return (int) a; }"},
        {"6", "private boolean f(String a, String b) { return a == b; }"},
        {"6", "public String toString() { return \"\"; }"},
        {"7", "private int f(int a) { return 24 / a; }"},
        {"7", "private int f(int a) { return 24 % a; }"},
        {"7", "private int f(int a) { int b = 3; b /= a; return b; }"},
        {"7", "private int f(int a) { return a > 0 ? 1 : 24 / a; }"},
        {"7", "private int f() { return 24 / 0; }"},
        {"8", "private int f(int a) { return f(a - 1); }"},
        {"8", "private static int f(int a) { return f(a - 1); }"},
        {"8", "private static int f(int a) { return g(a); } private static int g(int a) { return f(a); }"},
        {"9", "private void f() { for (;;) { } }"},
        {"9", "private void f() { for (int i = 0; i != 3; i++) { } }"},
        {"9", "private void f() { for (int i = 0; i < 3; i++) { i--; } }"},
        {"9", "private void f() { for (int i = 0; i < 3; i++) { i = 0; } }"},
        {"9", "private void f() { while (true) { } }"},
        {"10", "private String f(String a) { return a + 1; }"},
        {"11", "private int f(int a, int b, int c, int d, int e, int g, int h, int i) { return 0; }"},
        {"11", "private int f() {" + "\n".repeat(61) + "return 0; }"},
        {"11", "private int a1, a2, a3, a4, a5, a6, a7, a8, a9, a10, a11, a12, a13, a14, a15, a16, a17, a18, a19, a20, a21;"},
        {"11", "private int a() { return b(); } private int b() { return c(); } private int c() { return d(); }"
            + " private int d() { return e(); } private int e() { return f(); } private int f() { return g(); }"
            + " private int g() { return h(); } private int h() { return i(); } private int i() { return 0; }"},
        {"12", "private int f() { int[] row = new int[3]; return row[0]; }"},
        {"12", "private int f() { StringBuilder b = new StringBuilder(); return b.length(); }"},
    };
    // what keeps to the rules, near to what breaks them
    private static final String[] KEPT = {
        "private static final class Inside { private final int[] row = new int[3]; }",
        "private static final int[] ROW = {1}; private static final int TWO = 2; private int f() { return ROW[0] / TWO; }",
        "private int f(int a) { return a > 0 ? 24 / a : 0; }",
        "private static int f(int a, int depth) { return depth > 40 ? 0 : f(a, depth + 1); }",
        "private int f() { int s = 0; for (int i = 2; i >= 0; i--) { s += i; } return Math.floorMod(s, 24); }",
        "private int a() { return b(); } private int b() { return c(); } private int c() { return d(); }"
            + " private int d() { return e(); } private int e() { return f(); } private int f() { return g(); }"
            + " private int g() { return h(); } private int h() { return 0; }",
    };

    private static String inClass(String members) {
        return "public final class StoneFurrows { " + members + " }";
    }

    public static void main(String[] args) throws IOException {
        Check check = new Check();
        String source = Files.readString(Path.of("src/main/java/StoneFurrows.java"));
        List<String> faults = Language.faults(source);
        check.holds("StoneFurrows.java keeps to the rules: " + faults, faults.isEmpty());
        for (String[] broken : BROKEN) {
            List<String> seen = Language.faults(inClass(broken[1]));
            check.holds("rule " + broken[0] + " is broken by " + broken[1] + ", seen: " + seen,
                seen.stream().anyMatch(f -> f.startsWith(broken[0] + ": ")));
        }
        for (String kept : KEPT) {
            List<String> seen = Language.faults(inClass(kept));
            check.holds("nothing is broken by " + kept + ", seen: " + seen, seen.isEmpty());
        }
        StringBuilder many = new StringBuilder();
        for (int i = 0; i < 12; i++) {
            many.append("private static final class C").append(i).append(" { } ");
        }
        check.holds("thirteen classes", Language.faults(inClass(many.toString())).contains("11: 13 classes"));
        check.end();
    }
}
