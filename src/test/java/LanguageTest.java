import java.io.IOException;
import java.lang.reflect.Field;
import java.lang.reflect.Method;
import java.lang.reflect.Modifier;
import java.nio.file.Files;
import java.nio.file.Path;
import java.util.ArrayList;
import java.util.HashSet;
import java.util.List;
import java.util.Set;
import java.util.TreeSet;

/** The face of the document, and the rules of LANGUAGE.md that can be seen from outside or in single lines. */
final class LanguageTest {
    private static final int FACE = 59;

    public static void main(String[] args) throws IOException {
        face();
        told(Path.of("../shared/DOC.md"));
        classes();
        source(Files.readAllLines(Path.of("src/main/java/FigureHouse.java")));
        Due.end("LanguageTest");
    }

    private static void none(String what) {
        Due.is(what, 1, 0);
    }

    private static void face() {
        Class<?> house = FigureHouse.class;
        Due.is("public and final", Modifier.isPublic(house.getModifiers()) && Modifier.isFinal(house.getModifiers()), true);
        int methods = 0;
        for (Method m : house.getDeclaredMethods()) {
            if (Modifier.isPublic(m.getModifiers())) {
                methods++;
                boolean throwsOne = m.getExceptionTypes().length > 0;
                boolean isLooked = List.of("worth", "trueOf", "figure", "kept", "right", "stray", "printed", "copied").contains(m.getName());
                Due.is(m.getName() + " throws", throwsOne, isLooked);
            } else if (!Modifier.isPrivate(m.getModifiers())) {
                none("neither public nor private: " + m);
            }
        }
        Due.is("methods of the face", methods, FACE - 1);
        Due.is("one constructor", house.getDeclaredConstructors().length, 1);
        for (Field f : house.getDeclaredFields()) {
            if (!Modifier.isPrivate(f.getModifiers()) && !f.getName().equals("NONE")) {
                none("a field that is not private: " + f);
            }
        }
    }

    /** The document's face, line by line. */
    private static void told(Path document) throws IOException {
        if (!Files.isReadable(document)) {
            System.out.println("the document is not here: its face is not asked");
            return;
        }
        String face = Files.readString(document).split("```java\n")[1].split("```")[0];
        Set<String> due = new TreeSet<>();
        for (String line : face.split("\n")) {
            if (line.matches("    public .*\\) ?.*;") && !line.contains("FigureHouse(")) {
                due.add(line.trim().replaceAll(" \\w+(?=[,)])", ""));
            }
        }
        Set<String> got = new TreeSet<>();
        for (Method m : FigureHouse.class.getDeclaredMethods()) {
            if (Modifier.isPublic(m.getModifiers())) {
                got.add(m.toString().replace("FigureHouse.", "").replace(",", ", ").replace("java.util.", "") + ";");
            }
        }
        Due.is("the face is " + got + ", due is " + due, got.equals(due), true);
    }

    private static void classes() {
        Set<String> names = new HashSet<>();
        for (Method m : FigureHouse.class.getDeclaredMethods()) {
            if (Modifier.isPublic(m.getModifiers())) {
                names.add(m.getName());
            }
        }
        List<Class<?>> all = new ArrayList<>(List.of(FigureHouse.class.getDeclaredClasses()));
        all.add(FigureHouse.class);
        for (Class<?> one : all) {
            members(one, names);
        }
    }

    private static void members(Class<?> one, Set<String> names) {
        for (Method m : one.getDeclaredMethods()) {
            if (!Modifier.isPublic(m.getModifiers())) {
                Due.is("a name of the face: " + m, names.contains(m.getName()), false);
            }
        }
    }

    private static void source(List<String> lines) {
        String[] forbidden = {"->", "::", "finally", "synchronized", "assert ", "Exact(", "System.out", "Integer.M", "Long.M",
            "hashCode", " var ", "Thread", "Random", "nanoTime", "currentTimeMillis",
            // what the machine throws is never caught, by its own name or by a class above it
            "ArrayIndexOutOfBounds", "StringIndexOutOfBounds", "NullPointer", "ClassCast", "NegativeArraySize", "ArrayStore",
            "catch (RuntimeException", "catch (Exception", "catch (Throwable", "catch (Error", "catch (IndexOutOfBounds",
            "catch (ArithmeticException"};
        for (int i = 0; i < lines.size(); i++) {
            String line = lines.get(i);
            String code = line.replaceAll("//.*", "").replaceAll("^\\s*/?\\*.*", "");
            for (String one : forbidden) {
                if (code.contains(one)) {
                    none("line " + (i + 1) + " has " + one);
                }
            }
            if (code.startsWith("import ") && !code.matches("import java\\.util\\.(ArrayList|Arrays|NoSuchElementException);")) {
                none("an import: " + line);
            }
            if (code.startsWith("package")) {
                none("a package");
            }
            if (line.chars().anyMatch(c -> c > 126)) {
                none("a sign above 126 in line " + (i + 1));
            }
        }
    }
}
