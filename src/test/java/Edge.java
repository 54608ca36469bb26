import java.io.IOException;
import java.nio.file.Files;
import java.nio.file.Path;
import java.util.Arrays;
import java.util.LinkedHashMap;
import java.util.Map;
import java.util.function.Supplier;

/**
 * Tests of sentences: each begins with the words of the document that it is about. At the end every word
 * of the document's terms and promises has to stand in the words of some test.
 */
final class Edge {
    static final String TERMS = "Terms";

    interface Ask {
        long of(FigureHouse house);
    }

    private static final Path DOC = Path.of("../shared/DOC.md");
    private static final Map<String, String> PARTS = parts();
    private static final Map<String, boolean[]> QUOTED = new LinkedHashMap<>();

    private static String words = "";
    private static int calls = 0;

    private Edge() {
    }

    // ---- the document

    private static Map<String, String> parts() {
        Map<String, String> parts = new LinkedHashMap<>();
        if (!Files.isReadable(DOC)) {
            return parts;
        }
        try {
            for (String part : Files.readString(DOC).split("(?m)^## ")) {
                String heading = part.lines().findFirst().orElse("").replaceAll(":.*", "").trim();
                parts.put(heading, plain(part.substring(part.indexOf('\n') + 1)));
            }
        } catch (IOException e) {
            throw new IllegalStateException(e);
        }
        return parts;
    }

    /** The words alone: without the face's lines, the marks of the parts, and with single blanks. */
    private static String plain(String text) {
        String words = text.replaceAll("(?m)^`[^`]*`: ", "").replaceAll("==== \\d\\.", "").replaceAll("```(text)?", "");
        return words.replaceAll("\\s+", " ").trim();
    }

    private static boolean[] quotedIn(String part) {
        return QUOTED.computeIfAbsent(part, p -> new boolean[PARTS.getOrDefault(p, "").length()]);
    }

    /** Begins a test: of these words, which stand in the terms of the document. */
    static void of(String words) {
        of(TERMS, words);
    }

    /** Begins a test: of these words, which stand in a promise. */
    static void of(int promise, String words) {
        of("Promise " + promise, words);
    }

    static void of(String part, String said) {
        words = part + " '" + said + "'";
        calls = 0;
        int at = PARTS.getOrDefault(part, "").indexOf(said);
        Due.is(words + " stands in the document", at >= 0 || PARTS.isEmpty(), true);
        if (at >= 0) {
            Arrays.fill(quotedIn(part), at, at + said.length(), true);
        }
    }

    /** Each word of the terms and the promises is one that a test is about. */
    static void allIsQuoted() {
        if (PARTS.isEmpty()) {
            System.out.println("the document is not here: whether all its words are quoted is not asked");
        }
        for (String part : PARTS.keySet()) {
            if (part.equals(TERMS) || part.startsWith("Promise ")) {
                Due.is("no test is about, in " + part + ": " + leftOut(part), leftOut(part).isEmpty(), true);
            }
        }
    }

    private static String leftOut(String part) {
        StringBuilder left = new StringBuilder();
        String text = PARTS.get(part);
        boolean[] quoted = quotedIn(part);
        for (int i = 0; i < text.length(); i++) {
            left.append(quoted[i] ? '|' : text.charAt(i));
        }
        return left.toString().replaceAll("[| ;:.,]*\\|[| ;:.,]*", "|").replaceAll("^\\|$", "");
    }

    // ---- answers

    static long yes(boolean answer) {
        return answer ? 1 : 0;
    }

    static void is(long got, long want) {
        calls++;
        Due.is(words + ", call " + calls, got, want);
    }

    static void is(String call, long got, long want) {
        calls++;
        Due.is(words + ", " + call, got, want);
    }

    static void is(boolean got, boolean want) {
        is(yes(got), yes(want));
    }

    /** Each call, of a house of its own in the midst of its work, answers so. */
    static void answers(long want, Ask... asks) {
        for (Ask ask : asks) {
            FigureHouse house = Working.house();
            is(Due.answerOf(() -> ask.of(house)), want);
        }
    }

    /** Each call, of a house of its own in the midst of its work, answers so and changes nothing. */
    static void refuses(long want, Ask... asks) {
        refuses(Working::house, want, asks);
    }

    static void refuses(Supplier<FigureHouse> made, long want, Ask... asks) {
        long[] unasked = Working.seenOf(made.get());
        for (Ask ask : asks) {
            FigureHouse house = made.get();
            is(Due.answerOf(() -> ask.of(house)), want);
            long[] seen = Working.seenOf(house);
            for (int i = 0; i < unasked.length; i++) {
                if (seen[i] != unasked[i]) {
                    Due.is(words + ", call " + calls + ", then what is seen as number " + i, seen[i], unasked[i]);
                }
            }
        }
    }

    static void throwsOne(Ask... asks) {
        refuses(Due.THROWS, asks);
    }
}
