import java.io.IOException;
import java.nio.file.Files;
import java.nio.file.Path;
import java.util.List;

/** The class's text against LANGUAGE.md; and small texts that break one rule each, so that the looking is sharp. */
public final class LanguageTest {
    private LanguageTest() {
    }

    public static void main(String[] args) throws IOException {
        Due.sentence("LANGUAGE.md");
        for (String fault : Rules.faultsOf(Files.readString(Path.of("src/main/java/EntailedLand.java")))) {
            Due.holds(fault, false);
        }
        Due.holds("a text that keeps to the rules", Rules.faultsOf(inClass("int x() { return 1; }")).isEmpty());
        eachRule();
        deep();
        Due.end();
    }

    private static String inClass(String members) {
        return "public final class EntailedLand {\n" + members + "\n}\n";
    }

    private static void breaks(int rule, String members) throws IOException {
        List<String> found = Rules.faultsOf(inClass(members));
        boolean seen = found.stream().anyMatch(f -> f.startsWith("rule " + rule + ",") || f.startsWith("rule " + rule + ":"));
        Due.holds("rule " + rule + " is broken by " + members + ", found: " + found, seen);
    }

    private static void eachRule() throws IOException {
        breaks(1, "public static final class A { }");
        breaks(2, "private final class A { }");
        breaks(2, "int x() { Runnable r = () -> { }; return 1; }");
        breaks(2, "int x() { class A { } return 1; }");
        breaks(2, "Object x = new Object() { };");
        breaks(3, "private java.util.Map<String, String> x;");
        breaks(3, "private int[][][] x;");
        breaks(3, "private Object x;");
        breaks(4, "int x() { return Math.addExact(1, 2); }");
        breaks(4, "long x() { return System.nanoTime(); }");
        breaks(4, "double x() { return Math.random(); }");
        breaks(4, "int x() { return this.hashCode(); }");
        breaks(4, "private static final String X = \"" + (char) 233 + "\";");
        breaks(5, "private static int x;");
        breaks(5, "private static final int[] X = new int[3];");
        breaks(5, "private static final boolean[] X = {true};");
        breaks(5, "static { }");
        breaks(6, "int x() { throw new RuntimeException(); }");
        breaks(6, "int x() { try { return 1; } finally { } }");
        breaks(6, "int x() { synchronized (this) { return 1; } }");
        breaks(6, "int x(int a) { assert a > 0; return a; }");
        breaks(6, "int x() throws Exception { return 1; }");
        breaks(7, "int x(int a, int b) { return a / b; }");
        breaks(7, "int x(int a, int b) { return a % (b + 1); }");
        breaks(8, "private static int x(int a) { return a > 0 ? x(a - 1) : 0; }");
        breaks(8, "static int x(int depth) { return depth > 0 ? x(depth - 1) : 0; }");
        breaks(9, "int x(int a) { while (a > 0) { a--; } return a; }");
        breaks(9, "int x(int a) { do { a--; } while (a > 0); return a; }");
        breaks(9, "int x(int a) { for (int k = 0; a > 0; k++) { a--; } return a; }");
        breaks(9, "int x(int a) { for (int k = 0; k < a || a > 5; k++) { a--; } return a; }");
        breaks(9, "int x(int a) { for (int k = 0; k > a; k++) { } return a; }");
        breaks(9, "int x(int a) { for (int k = 0; k < a; k++) { k = 0; } return a; }");
        breaks(9, "int x(int a) { for (int k = 0; k < a; k++) { k--; } return a; }");
        breaks(9, "int x(int a) { for (;;) { } }");
        breaks(10, "String x(int a) { return \"a\" + a; }");
        breaks(11, "int x(int a, int b, int c, int d, int e, int f, int g, int h) { return 1; }");
        breaks(11, "int x() {" + "\n".repeat(60) + "return 1; }");
        breaks(11, "int a,b,c,d,e,f,g,h,i,j,k,l,m,n,o,p,q,r,s,t,u;");
        breaks(11, classes(12));
        breaks(12, "int x() { int[] a = new int[2]; return a.length; }");
    }

    private static String classes(int n) {
        StringBuilder s = new StringBuilder();
        for (int k = 0; k < n; k++) {
            s.append("private static class B").append(k).append(" { } ");
        }
        return s.toString();
    }

    /** Eight methods, each of which calls the next one, are as deep as may be; a recursion is gone through once. */
    private static void deep() throws IOException {
        Due.holds("eight deep", Rules.faultsOf(inClass(chain(8, "1"))).isEmpty());
        breaks(11, chain(9, "1"));
        String twoInTurns = "private int one(int depth) { return depth > 9 ? 0 : other(depth + 1); } "
                + "private int other(int depth) { return one(depth + 1); } ";
        Due.holds("six and two in turns", Rules.faultsOf(inClass(twoInTurns + chain(6, "one(0)"))).isEmpty());
        breaks(11, twoInTurns + chain(7, "one(0)"));
    }

    private static String chain(int methods, String last) {
        StringBuilder s = new StringBuilder("public int x1() { return x2(); }");
        for (int k = 2; k <= methods; k++) {
            s.append(" private int x").append(k).append("() { return ");
            s.append(k < methods ? "x" + (k + 1) + "()" : last).append("; }");
        }
        return s.toString();
    }
}
