import java.io.File;
import java.lang.reflect.Method;
import java.lang.reflect.Modifier;
import java.net.URL;
import java.net.URLClassLoader;
import java.nio.file.Files;
import java.nio.file.Path;
import java.util.ArrayList;
import java.util.List;
import java.util.regex.Matcher;
import java.util.regex.Pattern;
import javax.tools.ToolProvider;

/** The example of README.md, run: each call answers what stands behind it; and its table names every call. */
final class ReadmeTest {
    private static final String HOUSE = "FigureHouse house = new FigureHouse();";
    private static final Pattern CALL = Pattern.compile("(house\\.(\\w+)\\(.*\\)); +// (-?\\d+|true|false)(: .*)?");

    public static void main(String[] args) throws Exception {
        String readme = Files.readString(Path.of("README.md"));
        example(readme.split("```java\n")[1].split("```")[0]);
        everyCallIsNamed(readme);
        Due.end("ReadmeTest");
    }

    private static void example(String example) throws Exception {
        List<String> calls = new ArrayList<>();
        List<String> answers = new ArrayList<>();
        for (String line : example.split("\n")) {
            Matcher call = CALL.matcher(line);
            if (call.matches()) {
                calls.add(call.group(1));
                answers.add(call.group(3));
            } else {
                boolean isNoCall = line.isBlank() || line.startsWith("// ") || line.equals(HOUSE);
                Due.is("a call of README.md with its answer: " + line, isNoCall, true);
            }
        }
        Due.is("there are calls in README.md", calls.isEmpty(), false);
        String[] got = run(calls);
        for (int i = 0; i < calls.size(); i++) {
            String told = "README.md, " + calls.get(i) + " answers " + got[i] + ", not " + answers.get(i);
            Due.is(told, got[i].equals(answers.get(i)), true);
        }
    }

    /** Compiles the calls into a class, and runs that. */
    private static String[] run(List<String> calls) throws Exception {
        StringBuilder text = new StringBuilder("public final class Example { public static String[] run() { ");
        text.append(HOUSE).append(" return new String[] {");
        for (String call : calls) {
            text.append("String.valueOf(").append(call).append("), ");
        }
        text.append("}; } }");
        Path folder = Files.createTempDirectory("readme");
        try {
            Path source = Files.writeString(folder.resolve("Example.java"), text);
            int ended = ToolProvider.getSystemJavaCompiler()
                    .run(null, null, null, "-proc:none", "-d", folder.toString(), source.toString());
            Due.is("the example of README.md compiles", ended, 0);
            try (URLClassLoader loader = new URLClassLoader(new URL[] {folder.toUri().toURL()})) {
                return (String[]) loader.loadClass("Example").getMethod("run").invoke(null);
            }
        } finally {
            for (File file : folder.toFile().listFiles()) {
                file.delete();
            }
            Files.delete(folder);
        }
    }

    private static void everyCallIsNamed(String readme) {
        for (Method m : FigureHouse.class.getDeclaredMethods()) {
            if (Modifier.isPublic(m.getModifiers())) {
                Due.is("README.md names " + m.getName(), readme.contains("`" + m.getName() + "`"), true);
            }
        }
    }
}
