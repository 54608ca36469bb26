/** Counts the answers that are not as due, and ends a test by them. */
final class Due {
    static final long THROWS = Long.MIN_VALUE;

    interface Call {
        long answer();
    }

    private static int asked = 0;
    private static int wrong = 0;

    private Due() {
    }

    static void is(String call, long got, long want) {
        asked++;
        if (got != want) {
            wrong++;
            System.out.println(call + " answered " + got + ", due is " + want);
        }
    }

    static void is(String call, boolean got, boolean want) {
        is(call, got ? 1 : 0, want ? 1 : 0);
    }

    /** The call throws a NoSuchElementException. */
    static void isThrown(String call, Call asks) {
        long got = answerOf(asks);
        is(call, got == THROWS ? 1 : 0, 1);
    }

    static long answerOf(Call asks) {
        try {
            return asks.answer();
        } catch (java.util.NoSuchElementException thrown) {
            return THROWS;
        }
    }

    static void end(String test) {
        System.out.println(test + ": " + asked + " answers asked, " + wrong + " not as due");
        if (wrong != 0 || asked == 0) {
            System.exit(1);
        }
    }

    /** Feeds a text to the tape of a house; how many bytes the tape has then. */
    static int feed(FigureHouse house, String text) {
        int have = house.count(12);
        for (int at = 0; at < text.length(); at += 20) {
            int[] numbers = new int[5];
            for (int i = 0; i < 20; i++) {
                int sign = at + i < text.length() ? text.charAt(at + i) : 0;
                numbers[i / 4] |= sign << (24 - 8 * (i % 4));
            }
            have = house.feed(numbers[0], numbers[1], numbers[2], numbers[3], numbers[4]);
        }
        return have;
    }

    /** Feeds a text and makes it a plan; its number. */
    static int plan(FigureHouse house, String text) {
        house.end(0);
        feed(house, text);
        return house.plan();
    }

    static int faultOf(String text) {
        FigureHouse house = new FigureHouse();
        feed(house, text);
        return house.fault();
    }

    /** The worth of a label in a plan of this text; THROWS where it throws. */
    static long worthOf(String text, char label, int n, int b, int x) {
        FigureHouse house = new FigureHouse();
        int plan = plan(house, text);
        return answerOf(() -> house.worth(plan, label, n, b, x));
    }

    /**
     * A house with page 0 of eight lines and one block, whose numbers are whole and all true:
     * 14, 42, 84, 140, 210, 294, 392, 504 (lines 3 to 7 are made, of order 2).
     */
    static FigureHouse housed(String moreOfPlan) {
        FigureHouse house = new FigureHouse();
        house.function(2, 7, 0);
        plan(house, "a:7;o:2;m:8" + moreOfPlan);
        house.page(0, 7, 8, 0);
        return house;
    }
}
