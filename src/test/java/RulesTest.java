import java.io.IOException;
import java.nio.file.Files;
import java.nio.file.Path;
import java.util.List;

/** The program breaks no rule of LANGUAGE.md; and small programs that break one are seen to. */
final class RulesTest {
    public static void main(String[] args) throws IOException {
        for (String one : Rules.brokenIn(Files.readString(Path.of("src/main/java/FigureHouse.java")))) {
            Due.is("rule " + one, 1, 0);
        }
        plain();
        shapes();
        calls();
        exceptions();
        recursion();
        loopsAndSigns();
        Due.end("RulesTest");
    }

    private static List<String> brokenBy(String members) throws IOException {
        return Rules.brokenIn("import java.util.*; public final class FigureHouse { " + members + " }");
    }

    /** This rule is broken, once at least, and no other. */
    private static void breaks(int rule, String members) throws IOException {
        List<String> broken = brokenBy(members);
        boolean isSeen = !broken.isEmpty() && broken.stream().allMatch(one -> one.startsWith(rule + ":"));
        Due.is("rule " + rule + " is broken by " + members + ": " + broken, isSeen, true);
    }

    private static void keeps(String members) throws IOException {
        Due.is("nothing is broken by " + members + ": " + brokenBy(members), brokenBy(members).isEmpty(), true);
    }

    private static void plain() throws IOException {
        keeps("private static final long[] T = {1L, 10L}; private static final int N = 3; public int count(int i) "
                + "{ return i < 0 || i >= T.length ? N : (int) T[i]; }");
        keeps("private final ArrayList<Own> all = new ArrayList<Own>(); private static final class Own { int[][] two; "
                + "Own[] row; String text; StringBuilder made = new StringBuilder(); }");
        keeps("private static int down(int depth) { return depth > 40 ? 0 : down(depth + 1); }");
        keeps("private int one(int depth) { return depth > 40 ? 0 : other(depth + 1); } "
                + "private int other(int depth) { return one(depth); }");
        keeps("int by(int a, int b) { return b == 0 ? 0 : a / b; } int tenth(int a) { return a % 10; }");
    }

    private static void shapes() throws IOException {
        breaks(1, "public static final class Own { }");
        breaks(1, "protected static final class Own { }");
        breaks(2, "void own() { class Own { } }");
        breaks(2, "Runnable own() { return () -> { }; }");
        breaks(3, "boolean[][] rows;");
        breaks(3, "private static final class Own { } Own[][] rows;");
        breaks(3, "ArrayList<String> texts;");
        breaks(3, "Object any;");
        breaks(5, "private static int now = 0;");
        breaks(5, "private static final int[] ROW = new int[3];");
        breaks(5, "private static final boolean[] ROW = {true};");
        breaks(5, "private static final int[] ROW = {1}; void change() { ROW[0] = 2; }");
        breaks(5, "static { }");
        breaks(11, "void many(int a, int b, int c, int d, int e, int f, int g, int h) { }");
        breaks(11, "void longOne() { " + "\n".repeat(60) + "}");
        breaks(11, each(21, "int f#; "));
        keeps(each(20, "int f#; "));
        breaks(11, each(12, "private static final class A# { } "));
        keeps(each(11, "private static final class A# { } "));
    }

    /** The same so many times, with its number for each #. */
    private static String each(int times, String text) {
        StringBuilder made = new StringBuilder();
        for (int i = 0; i < times; i++) {
            made.append(text.replace("#", String.valueOf(i)));
        }
        return made.toString();
    }

    private static void calls() throws IOException {
        breaks(4, "long clock() { return System.nanoTime(); }");
        breaks(4, "int exact(int a) { return Math.addExact(a, 1); }");
        breaks(4, "int parsed(String text) { return Integer.parseInt(text); }");
        breaks(4, "int made() { return new HashMap<Integer, Integer>().size(); }");
        breaks(11, chainOf(9));
        keeps(chainOf(8));
        breaks(11, chainOf(8) + " int last(int a) { return m1(Math.abs(a)); }");
        breaks(12, "private static class Own { Own() { begin(); } void begin() { } }");
        keeps("private static class Own { Own() { begin(); } private void begin() { } }");
    }

    private static String chainOf(int methods) {
        StringBuilder made = new StringBuilder();
        for (int i = 1; i < methods; i++) {
            made.append("int m").append(i).append("(int a) { return m").append(i + 1).append("(a); } ");
        }
        return made.append("int m").append(methods).append("(int a) { return a; }").toString();
    }

    private static void exceptions() throws IOException {
        keeps("int one() { throw new NoSuchElementException(); }");
        keeps("int one() { throw new IllegalArgumentException(\"a text\"); }");
        breaks(6, "int one() { throw new Error(); }");
        breaks(6, "int one(String text) { throw new IllegalStateException(text); }");
        breaks(6, "public FigureHouse() { throw new IllegalStateException(); }");
        breaks(6, "int one() { try { return 1; } finally { count(); } } void count() { }");
        for (String caught : new String[] {"ArithmeticException", "IndexOutOfBoundsException", "RuntimeException"}) {
            breaks(6, "int one() { try { return two(); } catch (" + caught + " e) { return 0; } } int two() { return 2; }");
        }
        breaks(6, "int one(int a) { try { if (a < 0) { throw new IllegalStateException(); } return two(); } "
                + "catch (IllegalStateException e) { return 0; } } int two() { return 2; }");
        keeps("int one() { try { return two(); } catch (IllegalStateException e) { return 0; } } "
                + "int two() { throw new IllegalStateException(); }");
        breaks(6, "public int hashCode() { return 1; }");
        breaks(6, "boolean same(String a, String b) { return a == b; }");
        breaks(6, "void one(int a) { assert a > 0; }");
        breaks(6, "synchronized void no() { } void one() { synchronized (this) { } }");
    }

    private static void recursion() throws IOException {
        breaks(8, "private int down(int depth) { return depth > 40 ? 0 : down(depth + 1); }");
        breaks(8, "static int down(int depth) { return depth > 40 ? 0 : down(depth + 1); }");
        breaks(8, "private static int down(int a) { return a > 40 ? 0 : down(a + 1); }");
        breaks(8, "private int one(int a) { return a > 40 ? 0 : other(a + 1); } "
                + "private int other(int a) { return one(a); }");
    }

    private static void loopsAndSigns() throws IOException {
        breaks(7, "int by(int a, int b) { return a / b; }");
        breaks(7, "int by(int a, int b) { return a % (b + 1); }");
        breaks(7, "int by(int a, int b) { return Math.floorMod(a, b); }");
        breaks(7, "int by(int a, int b) { a /= b; return a; }");
        breaks(7, "int by(int a) { return a / 0; }");
        breaks(7, "int[] row; int at(int i) { return row[i]; }");
        breaks(7, "int[] row; int at(int i) { int j = 2 * i; return i < 0 ? 0 : row[j]; }");
        breaks(7, "ArrayList<Integer> list; Integer at(int i) { return list.get(i); }");
        keeps("int[] row; boolean has(int i) { return i >= 0 && i < row.length; } "
                + "int at(int i) { return has(i) ? row[i] : 0; }");
        keeps("ArrayList<Integer> list; Integer at(int i) { return i < 0 || i >= list.size() ? null : list.get(i); }");
        breaks(9, "int one() { for (;;) { } }");
        breaks(9, "int one() { while (true) { } }");
        breaks(9, "int one() { do { } while ((true)); }");
        breaks(10, "String one(String a) { return a + 1; }");
        breaks(10, "String one(String a) { a += 1; return a; }");
        breaks(10, "boolean both(boolean a, boolean b) { return a & b; }");
        breaks(10, "boolean both(boolean a, boolean b) { a |= b; return a; }");
        breaks(12, "int all(List<Integer> list) { int n = 0; for (int i : list) { n++; } return n; }");
    }
}
