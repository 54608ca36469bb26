import java.util.Random;

/** Promises 11 and 13 over many texts: plans that a dice makes, cut and altered, against PlanTree. */
final class FaultTest {
    private static final Random DICE = new Random(11);

    public static void main(String[] args) {
        int good = 0;
        for (int i = 0; i < 30000; i++) {
            String text = DICE.nextInt(4) == 0 ? soup() : altered(plan());
            if (text.length() > 160) {
                continue;
            }
            FigureHouse house = new FigureHouse();
            Due.feed(house, text);
            int want = PlanTree.faultOf(text);
            Due.is("fault of '" + text + "'", house.fault(), want);
            if (want == -1) {
                good++;
                worths(house, text);
            }
        }
        Due.is("thousands are without a fault", good > 3000, true);
        Due.end("FaultTest");
    }

    private static void worths(FigureHouse house, String text) {
        Due.is("plan", house.plan(), 0);
        for (char label : "aopcmfhskt".toCharArray()) {
            int n = DICE.nextInt(9) - 2, b = DICE.nextInt(4), x = DICE.nextInt(9999);
            long want = new PlanTree(text).worth(label, n, b, x);
            Due.is("worth of " + label + " in '" + text + "' with " + n + " " + b + " " + x, house.worth(0, label, n, b, x), want);
        }
    }

    private static String soup() {
        StringBuilder text = new StringBuilder("a:");
        int length = DICE.nextInt(20);
        for (int i = 0; i < length; i++) {
            text.append("ao:;?|&!()[]=<>+-*/%nbx0129 ".charAt(DICE.nextInt(28)));
        }
        return text.toString();
    }

    private static String altered(String text) {
        StringBuilder altered = new StringBuilder(text);
        int changes = DICE.nextInt(3);
        for (int i = 0; i < changes && altered.length() > 0; i++) {
            int at = DICE.nextInt(altered.length());
            char sign = "aq:;?|&!()[]=<>+-*/%nbx0129 ".charAt(DICE.nextInt(28));
            switch (DICE.nextInt(4)) {
                case 0: altered.setCharAt(at, sign); break;
                case 1: altered.insert(at, sign); break;
                case 2: altered.deleteCharAt(at); break;
                default: altered.setLength(at); break;
            }
        }
        return altered.toString();
    }

    private static String one(String... of) {
        return of[DICE.nextInt(of.length)];
    }

    private static String blank() {
        return DICE.nextInt(8) == 0 ? one(" ", "  ") : "";
    }

    private static String plan() {
        StringBuilder text = new StringBuilder(clause());
        while (DICE.nextInt(3) > 0) text.append(";").append(clause());
        return text.toString();
    }

    private static String clause() {
        String head = blank() + one("a", "o", "p", "c", "m", "f", "h", "s", "k", "t") + blank() + ":";
        return head + (DICE.nextBoolean() ? condition(0) + blank() + "?" : "") + sum(0) + blank();
    }

    private static String condition(int deep) {
        String text = unit(deep);
        while (DICE.nextInt(3) == 0) text += blank() + one("&", "|") + unit(deep);
        return text;
    }

    private static String unit(int deep) {
        int roll = deep > 7 ? 9 : DICE.nextInt(deep == 0 ? 5 : 3);
        if (roll == 0) return blank() + "!" + unit(deep + 1);
        if (roll == 1) return blank() + "(" + condition(deep + 1) + blank() + ")";
        return sum(deep) + blank() + one("=", "<", ">") + sum(deep);
    }

    private static String sum(int deep) {
        String text = atom(deep);
        while (DICE.nextInt(3) == 0) text += blank() + one("+", "-", "*", "/", "%") + atom(deep);
        return text;
    }

    private static String atom(int deep) {
        if (deep < 8 && DICE.nextInt(4) == 0) return blank() + "[" + sum(deep + 1) + blank() + "]";
        return blank() + one("n", "b", "x", "0", "7", "12", "305", "9999", "00012");
    }
}
