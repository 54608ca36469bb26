import java.util.HashSet;
import java.util.Set;

/** Plans by other ways than the class: texts cut apart at signs, faults by a grammar with all its stacks. */
final class PlanTree {
    private final String text;

    PlanTree(String text) {
        this.text = text.replace(" ", "");
    }

    long worth(char label, long n, long b, long x) {
        for (String clause : text.split(";")) {
            if (clause.charAt(0) != label) continue;
            String body = clause.substring(2);
            int mark = body.indexOf('?');
            if (mark < 0 || holds(body.substring(0, mark), n, b, x)) return sum(body.substring(mark + 1), n, b, x);
        }
        return 0;
    }

    /** The last place outside of brackets where one of these signs stands; -1 for none. */
    private static int last(String s, String signs) {
        int depth = 0, at = -1;
        for (int i = 0; i < s.length(); i++) {
            if ("([".indexOf(s.charAt(i)) >= 0) depth++;
            if (")]".indexOf(s.charAt(i)) >= 0) depth--;
            if (depth == 0 && signs.indexOf(s.charAt(i)) >= 0) at = i;
        }
        return at;
    }

    private static boolean holds(String s, long n, long b, long x) {
        int at = last(s, "|");
        if (at >= 0) return holds(s.substring(0, at), n, b, x) | holds(s.substring(at + 1), n, b, x);
        at = last(s, "&");
        if (at >= 0) return holds(s.substring(0, at), n, b, x) & holds(s.substring(at + 1), n, b, x);
        if (s.charAt(0) == '!') return !holds(s.substring(1), n, b, x);
        if (s.charAt(0) == '(') return holds(s.substring(1, s.length() - 1), n, b, x);
        at = last(s, "=<>");
        int order = Long.compare(sum(s.substring(0, at), n, b, x), sum(s.substring(at + 1), n, b, x));
        return s.charAt(at) == '=' ? order == 0 : s.charAt(at) == '<' ? order < 0 : order > 0;
    }

    private static long sum(String s, long n, long b, long x) {
        int at = last(s, "+-");
        if (at < 0) at = last(s, "*/%");
        if (at >= 0) {
            long one = sum(s.substring(0, at), n, b, x), other = sum(s.substring(at + 1), n, b, x);
            switch (s.charAt(at)) {
                case '+': return cut(one + other);
                case '-': return cut(one - other);
                case '*': return cut(one * other);
                case '/': return other == 0 ? 0 : cut(one / other);
                default: return other == 0 ? 0 : cut(one - one / other * other);
            }
        }
        if (s.charAt(0) == '[') return sum(s.substring(1, s.length() - 1), n, b, x);
        if (s.equals("n")) return n;
        if (s.equals("b")) return b;
        return s.equals("x") ? x : Long.parseLong(s);
    }

    private static long cut(long v) {
        return v > 1000000 ? 1000000 : v < -1000000 ? -1000000 : v;
    }

    // ---- faults: P plan, Q its rest, C clause, B body, K condition, k rest, A part, a rest, U unit,
    // S sum, s rest, T term, t rest, M atom, 1 2 3 so many digits more may come, e the end of what a ! holds

    private static String[] ways(char symbol) {
        switch (symbol) {
            case 'P': return new String[] {"CQ"};
            case 'Q': return new String[] {"", ";CQ"};
            case 'C': return new String[] {"L:B"};
            case 'B': return new String[] {"S", "K?S"};
            case 'K': return new String[] {"Ak"};
            case 'k': return new String[] {"", "|Ak"};
            case 'A': return new String[] {"Ua"};
            case 'a': return new String[] {"", "&Ua"};
            case 'U': return new String[] {"!Ue", "(K)", "SRS"};
            case 'S': return new String[] {"Ts"};
            case 's': return new String[] {"", "+Ts", "-Ts"};
            case 'T': return new String[] {"Mt"};
            case 't': return new String[] {"", "*Mt", "/Mt", "%Mt"};
            case 'M': return new String[] {"D3", "V", "[S]"};
            case '3': return new String[] {"", "D2"};
            case '2': return new String[] {"", "D1"};
            case '1': return new String[] {"", "D"};
            case 'e': return new String[] {""};
            default: return null;
        }
    }

    private static int depth(String stack) {
        int depth = 0;
        for (int i = 0; i < stack.length(); i++) if (")]e".indexOf(stack.charAt(i)) >= 0) depth++;
        return depth;
    }

    private static void open(String stack, Set<String> ready) {
        String[] ways = stack.isEmpty() ? null : ways(stack.charAt(0));
        if (ways == null) {
            ready.add(stack);
            return;
        }
        for (String way : ways) {
            String next = way + stack.substring(1);
            if (depth(next) <= 6) open(next, ready);
        }
    }

    private static boolean matches(char symbol, char sign) {
        switch (symbol) {
            case 'L': return "aopcmfhskt".indexOf(sign) >= 0;
            case 'V': return "nbx".indexOf(sign) >= 0;
            case 'R': return "=<>".indexOf(sign) >= 0;
            case 'D': return sign >= '0' && sign <= '9';
            default: return symbol == sign;
        }
    }

    static int faultOf(String text) {
        Set<String> stacks = new HashSet<>();
        stacks.add("P");
        for (int i = 0; i < text.length(); i++) {
            Set<String> next = new HashSet<>();
            for (String stack : stacks) {
                if (text.charAt(i) == ' ') {
                    next.add(!stack.isEmpty() && "123".indexOf(stack.charAt(0)) >= 0 ? stack.substring(1) : stack);
                    continue;
                }
                Set<String> ready = new HashSet<>();
                open(stack, ready);
                for (String one : ready) {
                    if (!one.isEmpty() && matches(one.charAt(0), text.charAt(i))) next.add(one.substring(1));
                }
            }
            if (next.isEmpty()) return i;
            stacks = next;
        }
        for (String stack : stacks) {
            Set<String> ready = new HashSet<>();
            open(stack, ready);
            if (ready.contains("")) return -1;
        }
        return text.length();
    }
}
