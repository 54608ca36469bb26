import java.lang.reflect.InvocationTargetException;
import java.lang.reflect.Method;
import java.util.ArrayList;
import java.util.HashMap;
import java.util.List;
import java.util.Map;
import java.util.Random;
import java.util.TreeSet;

/** Long runs of calls, made by a seeded dice, asked of the class and of the Oracle alike. */
final class OracleTest {
    private static final String[] ASKED = {
        "trueOf", "figure", "figure", "kind", "kept", "right", "wrong", "stray", "bound", "safe", "check", "fails",
        "unseen", "healed", "spread", "least", "ways", "first", "rate", "shut", "left", "printed", "proof", "copied",
        "errors", "compare", "paged", "lined", "exact", "whole", "nearest", "count", "known", "worth", "best"
    };
    private static final String[] DONE = {
        "slip", "slip", "slip", "mend", "days", "as", "drift", "doubled", "set", "press", "press", "copy", "erratum",
        "apply", "apply", "other", "tell", "tell", "tell", "sheet", "put", "put", "lose", "take", "take", "hours",
        "function", "page"
    };

    private final Map<String, Method> mine = methods(FigureHouse.class);
    private final Map<String, Method> due = methods(Oracle.class);
    private final Random dice;
    private final FigureHouse house = new FigureHouse();
    private final Oracle oracle = new Oracle();
    private final StringBuilder told = new StringBuilder();
    private int calls = 0;

    OracleTest(long seed) {
        dice = new Random(seed);
    }

    private static Map<String, Method> methods(Class<?> of) {
        Map<String, Method> all = new HashMap<>();
        for (Method m : of.getDeclaredMethods()) {
            boolean face = false;
            for (Method f : FigureHouse.class.getDeclaredMethods()) {
                face |= java.lang.reflect.Modifier.isPublic(f.getModifiers()) && f.getName().equals(m.getName())
                        && java.util.Arrays.equals(f.getParameterTypes(), m.getParameterTypes());
            }
            if (face) {
                m.setAccessible(true);
                all.put(m.getName(), m);
            }
        }
        return all;
    }

    private static long answer(Method method, Object of, Object[] args) {
        try {
            Object got = method.invoke(of, args);
            if (got instanceof Boolean) return (Boolean) got ? 1 : 0;
            return ((Number) got).longValue();
        } catch (InvocationTargetException thrown) {
            if (thrown.getCause() instanceof java.util.NoSuchElementException) return Due.THROWS;
            throw new IllegalStateException(method + " " + java.util.Arrays.toString(args), thrown.getCause());
        } catch (IllegalAccessException e) {
            throw new IllegalStateException(e);
        }
    }

    private long ask(String name, long... args) {
        Class<?>[] types = mine.get(name).getParameterTypes();
        Object[] given = new Object[types.length];
        for (int i = 0; i < types.length; i++) given[i] = types[i] == int.class ? (Object) (int) args[i] : (Object) args[i];
        calls++;
        long want = answer(due.get(name), oracle, given);
        long got = answer(mine.get(name), house, given);
        String call = name + java.util.Arrays.toString(given);
        told.append(call).append(" = ").append(want).append('\n');
        Due.is(call, got, want);
        if (got != want) {
            System.out.println("the calls ahead of it:\n" + told);
            System.exit(1);
        }
        return want;
    }

    private void feed(String text) {
        for (int at = 0; at < text.length(); at += 20) {
            long[] numbers = new long[5];
            for (int i = 0; i < 20; i++) {
                int sign = at + i < text.length() ? text.charAt(at + i) : 0;
                numbers[i / 4] |= (long) sign << (24 - 8 * (i % 4));
            }
            for (int i = 0; i < 5; i++) numbers[i] = (int) numbers[i];
            ask("feed", numbers);
        }
    }

    // ---- what is told and asked

    private int roll(int low, int high) {
        return low + dice.nextInt(high - low + 1);
    }

    /** Mostly a number of so many, sometimes one that is none of them. */
    private long one(int many) {
        if (many == 0 || dice.nextInt(40) == 0) {
            long[] odd = {-1, many, many + 1, -2, Integer.MIN_VALUE, Integer.MAX_VALUE};
            return odd[dice.nextInt(odd.length)];
        }
        return dice.nextInt(many);
    }

    private String plan() {
        String[] heads = {"o:%d", "p:%d", "c:%d", "f:%d", "a:%d", "m:%d"};
        int o = roll(1, 4), p = roll(0, 5), c = dice.nextInt(3) == 0 ? 0 : roll(0, 6 - p), m = roll(o + 2, o + 9);
        if (dice.nextInt(4) == 0) m = roll(o + 2, 40);
        int[] head = {o, p, c, roll(0, 2), dice.nextInt(3) == 0 ? roll(1, 50) : roll(1, 5), m};
        if (dice.nextInt(25) == 0) head[dice.nextInt(6)] += roll(-3, 40);
        StringBuilder text = new StringBuilder();
        for (int i = 0; i < 6; i++) {
            if (head[i] != 0) text.append(text.length() > 0 ? ";" : "").append(String.format(heads[i], Math.max(0, head[i])));
        }
        String[] lines = {"h:n%3", "h:b", "h:x%8", "h:n<9?2", "h:3", "s:n", "s:7-n", "s:x%256", "k:n%4", "k:b%4", "k:3", "k:2", "k:1",
            "k:!n=7&n>4?2", "k:x%2=1|(b=1&n>3)?1", "t:n*n", "t:5-n", "t:9999*9999", "t:[n+1]*[b+2]/3", "k:[n-b]%4<2?[n+3]%4"};
        int more = roll(0, 5);
        for (int i = 0; i < more; i++) {
            String line = lines[dice.nextInt(lines.length)];
            if (text.length() + line.length() < 158) text.append(dice.nextInt(5) == 0 ? " ; " : ";").append(line);
        }
        return text.toString();
    }

    private void tellPlan() {
        ask("end", 0);
        feed(plan());
        ask("fault");
        ask("plan");
    }

    private int pageAt = 0;

    private long page() {
        if (dice.nextInt(4) == 0 && oracle.pages.size() > 0) pageAt = dice.nextInt(oracle.pages.size());
        return dice.nextInt(40) == 0 ? one(oracle.pages.size()) : oracle.pages.isEmpty() ? 0 : pageAt;
    }

    private long line(long page) {
        return one(oracle.isPage((int) page) ? oracle.pages.get((int) page).lines : 3);
    }

    /** Mostly a line that is made. */
    private long madeLine(long page) {
        long line = line(page);
        for (int i = 0; i < 9 && oracle.isLine((int) page, (int) line) && !oracle.pages.get((int) page).made((int) line); i++) {
            line = line(page);
        }
        return line;
    }

    private long day() {
        return dice.nextInt(3) == 0 ? one(oracle.now + 1) : oracle.now;
    }

    private long column() {
        return dice.nextInt(4) == 0 ? 9 : roll(-1, 5);
    }

    private long amount() {
        int[] odd = {0, 1000000, -1000000, 1000001, -1000001};
        if (dice.nextInt(12) == 0) return odd[dice.nextInt(5)];
        if (dice.nextInt(4) == 0 && !oracle.slips.isEmpty()) return -oracle.slips.get(dice.nextInt(oracle.slips.size())).amount;
        return dice.nextInt(3) == 0 ? roll(-999999, 999999) : roll(-4, 4);
    }

    private long number(long page, long line) {
        if (!oracle.isLine((int) page, (int) line) || dice.nextInt(6) == 0) return roll(-3, 400);
        if (oracle.isSet((int) page) && dice.nextBoolean()) return oracle.printed((int) page, (int) line);
        return oracle.right((int) page, (int) line);
    }

    private boolean small(long page, long block) {
        return !oracle.isPage((int) page) || oracle.pages.get((int) page).m - oracle.pages.get((int) page).o < 11;
    }

    private void tellOne(String name) {
        long page = page(), line = line(page);
        switch (name) {
            case "slip": ask(name, page, madeLine(page), column(), amount()); break;
            case "mend": ask(name, one(oracle.slips.size())); break;
            case "days": ask(name, dice.nextInt(9) == 0 ? roll(-1, 1001) : roll(0, 3)); break;
            case "as": ask(name, dice.nextBoolean() ? -1 : roll(-2, oracle.now + 1)); break;
            case "drift": ask(name, dice.nextInt(5) == 0 ? roll(-1, 1001) : roll(0, 5)); break;
            case "doubled": ask(name, roll(-1, 8), roll(0, 8), roll(-1, 9), roll(0, 1001), dice.nextInt(3) == 0 ? 0 : roll(0, 9)); break;
            case "set": case "copy": case "other": ask(name, page); break;
            case "press": ask(name, page, line, dice.nextInt(3) == 0 ? roll(-1, 13) : roll(0, 2), roll(-1, 10)); break;
            case "erratum": ask(name, page, line, number(page, line), number(page, line)); break;
            case "apply": ask(name, one(oracle.copies.size()), one(oracle.errata.size())); break;
            case "tell": {
                long other = one(oracle.others.size());
                long of = other >= 0 && other < oracle.others.size() ? oracle.others.get((int) other).page : 0;
                long at = line(of);
                ask(name, other, at, dice.nextInt(12) == 0 ? -1 : number(of, at));
                break;
            }
            case "sheet": ask(name, roll(-1, 3)); break;
            case "put": {
                long v = oracle.isLine((int) page, (int) line) && dice.nextBoolean()
                        ? Oracle.big(oracle.number(oracle.pages.get((int) page), (int) line, oracle.known((int) page, oracle.known()))).intValue()
                        : dice.nextInt(6) == 0 ? roll(-1000000001, 1000000001) : roll(-70000, 70000);
                ask(name, one(oracle.sheets.size()), roll(0, 3), v);
                break;
            }
            case "lose": if (dice.nextInt(8) == 0) ask(name, one(oracle.sheets.size())); break;
            case "take": ask(name, page, madeLine(page), one(oracle.sheets.size()), dice.nextInt(9) == 0 ? one(40) : roll(0, 3)); break;
            case "hours": ask(name, roll(0, 101)); break;
            case "function": ask(name, roll(-1, 3), roll(0, 100), roll(-1, 100)); break;
            default: ask(name, one(oracle.functions.size()), first(), roll(1, 41), one(oracle.plans.size())); break;
        }
    }

    private long first() {
        return dice.nextInt(3) == 0 ? roll(1, 9999) : dice.nextInt(20) == 0 ? roll(-1, 0) : roll(1, 60);
    }

    private void askOne(String name) {
        long page = page(), line = line(page), q = day();
        long block = oracle.isPage((int) page) && !oracle.pages.isEmpty()
                ? one((oracle.pages.get((int) page).lines - 1) / oracle.pages.get((int) page).m + 1) : 0;
        switch (name) {
            case "trueOf": case "right": case "stray": case "bound": case "safe": case "printed": ask(name, page, line); break;
            case "figure": ask(name, page, line, dice.nextBoolean() ? 9 : roll(-1, 6), q); break;
            case "kind": case "kept": case "check": ask(name, page, line, q); break;
            case "wrong": case "fails": case "unseen": case "healed": ask(name, page, q); break;
            case "spread": ask(name, page, line, column()); break;
            case "least": case "ways": if (small(page, block)) ask(name, page, block, q); break;
            case "first":
                if (small(page, block)) {
                    int i = dice.nextInt(9) == 0 ? roll(-1, 4) : roll(0, 1);
                    for (int what = dice.nextInt(5) == 0 ? -1 : 0; what < 3; what++) ask(name, page, block, q, i, what);
                }
                break;
            case "rate": ask(name, roll(-1, 8)); break;
            case "shut": ask(name, roll(-1, 8), page, line); break;
            case "left": ask(name, roll(-1, 8), roll(-1, 8)); break;
            case "proof": ask(name, page, roll(-1, 2)); break;
            case "copied": ask(name, one(oracle.copies.size()), line); break;
            case "errors": ask(name, one(oracle.copies.size())); break;
            case "compare": ask(name, one(oracle.others.size()), roll(-1, 5)); break;
            case "paged": ask(name, page, roll(-1, 10)); break;
            case "lined": ask(name, page, line, roll(-1, 7)); break;
            case "exact": case "whole": case "nearest":
                ask(name, one(oracle.functions.size()), dice.nextInt(9) == 0 ? one(10000) : roll(1, 9999), roll(-1, 7));
                break;
            case "count": ask(name, roll(-1, 13)); break;
            case "known": ask(name); break;
            case "worth": ask(name, one(oracle.plans.size()), "aopcmfhsktqz".charAt(roll(0, 11)), roll(-9, 99), roll(-9, 99), roll(-9, 9999)); break;
            default:
                if (dice.nextInt(12) == 0) {
                    ask(name, one(oracle.functions.size()), first(), roll(2, 30), roll(1, dice.nextBoolean() ? 9 : 50), roll(0, 5), roll(0, 2), roll(0, 3));
                }
                break;
        }
    }

    private static final int[] EDGES = {
        Integer.MIN_VALUE, Integer.MIN_VALUE + 1, -1000000001, -1000001, -1000000, -1001, -3, -2, -1, 0, 1, 2, 3, 4, 7, 8, 9, 10, 12,
        13, 32, 39, 40, 41, 50, 51, 60, 80, 99, 100, 101, 160, 255, 256, 1000, 1001, 9999, 10000, 65536, 1000000, 1000001, 1000000000,
        1000000001, Integer.MAX_VALUE - 1, Integer.MAX_VALUE
    };

    /** Any call with numbers at the edges of what is asked, or far beyond. */
    private void askAtEdges() {
        List<String> names = new ArrayList<>(new TreeSet<>(mine.keySet()));
        String name = names.get(dice.nextInt(names.size()));
        long[] args = new long[mine.get(name).getParameterCount()];
        for (int i = 0; i < args.length; i++) {
            args[i] = dice.nextBoolean() ? dice.nextInt(3) : EDGES[dice.nextInt(EDGES.length)];
            // letters beyond a million are cut behind the next sign, if at all: not asked
            if (name.equals("worth") && i > 1) args[i] = Math.max(-1000000, Math.min(1000000, args[i]));
        }
        // days would run out soon, and Oracle tries all sets of slips
        if (name.equals("days") && args[0] > 0 && args[0] <= 1000) return;
        if (List.of("least", "ways", "first").contains(name) && !small((int) args[0], (int) args[1])) return;
        if (name.equals("worth") && dice.nextBoolean()) args[1] = "aopcmfhskt".charAt(dice.nextInt(10));
        ask(name, args);
    }

    private void run() {
        int functions = roll(1, 4);
        for (int i = 0; i < functions; i++) ask("function", roll(0, 2), roll(1, 99), roll(0, 99));
        int plans = roll(1, 3);
        for (int i = 0; i < plans; i++) tellPlan();
        for (int i = 0; i < 4; i++) tellOne("page");
        while (calls < 480) {
            String[] names = dice.nextInt(5) < 2 ? DONE : ASKED;
            String name = names[dice.nextInt(names.length)];
            if (names == DONE) tellOne(name);
            else askOne(name);
            if (dice.nextInt(12) == 0) askAtEdges();
            if (dice.nextInt(80) == 0 && calls < 400) tellPlan();
        }
    }

    public static void main(String[] args) {
        int runs = args.length > 0 ? Integer.parseInt(args[0]) : 300;
        long from = args.length > 1 ? Long.parseLong(args[1]) : 1;
        for (int i = 0; i < runs; i++) new OracleTest(from + i).run();
        Due.end("OracleTest");
    }
}
