/** Promises 57 to 59: hours, best, count. */
final class BestTest {
    public static void main(String[] args) {
        hours();
        best();
        highestOrder();
        leastOfEqualHours();
        noPlan();
        refused();
        asItsPage();
        count();
        Due.end("BestTest");
    }

    private static void hours() {
        FigureHouse house = new FigureHouse();
        Due.is("hours(0)", house.hours(0), false);
        Due.is("hours(101)", house.hours(101), false);
        Due.is("hours(1)", house.hours(1), true);
        Due.is("hours(100)", house.hours(100), true);
    }

    private static void same(String what, FigureHouse house, int[] asked, long... want) {
        for (int i = 0; i < want.length; i++) {
            Due.is(what + " " + i, house.best(asked[0], asked[1], asked[2], asked[3], asked[4], asked[5], i), want[i]);
        }
    }

    private static void best() {
        FigureHouse house = new FigureHouse();
        house.function(2, 7, 0);
        same("squares", house, new int[] {0, 7, 8, 7, 0, 0}, 40, 2, 0, 8);
        same("40 of them", house, new int[] {0, 7, 40, 7, 0, 0}, 30 + 2 * 37, 2, 0, 40);
        house.hours(100);
        same("dear pivots", house, new int[] {0, 7, 40, 7, 0, 0}, 300 + 2 * 37, 2, 0, 40);
        house.hours(1);
        // With blocks of three of order 1 only each third line is made: never right. All pivots is not a plan
        // of its own, but two lines are.
        same("two lines", house, new int[] {0, 7, 2, 7, 0, 0}, 2, 1, 0, 3);
        same("cheap pivots", house, new int[] {0, 7, 8, 7, 0, 0}, 3 + 3 + 2 * 1 + 2, 2, 0, 4);
    }

    /** With dear pivots the highest order, and all places that may be carried. */
    private static void highestOrder() {
        FigureHouse house = new FigureHouse();
        house.hours(50);
        house.function(0, 80, 62);
        house.function(1, 22, 3);
        same("roots", house, new int[] {0, 438, 34, 7, 1, 2}, 628, 4, 5, 32);
        same("shares", house, new int[] {1, 193, 26, 2, 4, 1}, 1076, 4, 2, 7);
    }

    /** Three lines by 2: order 1 in blocks of 2 is none, so blocks of 4 and more all have three pivots. */
    private static void leastOfEqualHours() {
        FigureHouse house = new FigureHouse();
        house.function(2, 7, 0);
        same("three lines", house, new int[] {0, 7, 3, 7, 0, 0}, 30, 2, 0, 4);
        house.hours(2);
        // made lines of order 2 take as many hours as pivots: all blocks are alike, the least is taken
        same("as many hours", house, new int[] {0, 7, 9, 7, 0, 0}, 18, 2, 0, 4);
    }

    /** 1000 by 1 to 5 leaps too far for any made line. */
    private static void noPlan() {
        FigureHouse house = new FigureHouse();
        house.function(1, 99, 0);
        same("leaps", house, new int[] {0, 1, 40, 50, 5, 0}, -1, -1, -1, -1);
    }

    private static void refused() {
        FigureHouse house = new FigureHouse();
        house.function(2, 7, 0);
        int[][] bad = {{1, 7, 8, 7, 0, 0, 0}, {-1, 7, 8, 7, 0, 0, 0}, {0, 0, 8, 7, 0, 0, 0}, {0, 10000, 8, 7, 0, 0, 0},
            {0, 7, 1, 7, 0, 0, 0}, {0, 7, 41, 7, 0, 0, 0}, {0, 7, 8, 0, 0, 0, 0}, {0, 7, 8, 51, 0, 0, 0},
            {0, 7, 8, 7, -1, 0, 0}, {0, 7, 8, 7, 6, 0, 0}, {0, 7, 8, 7, 0, -1, 0}, {0, 7, 8, 7, 0, 3, 0},
            {0, 7, 8, 7, 0, 0, -1}, {0, 7, 8, 7, 0, 0, 4}, {0, 9998, 2, 2, 0, 0, 0}, {0, Integer.MAX_VALUE, 2, 2, 0, 0, 0}};
        for (int[] b : bad) {
            Due.is("refused", house.best(b[0], b[1], b[2], b[3], b[4], b[5], b[6]), -1);
        }
        Due.is("x is 9999", house.best(0, 9997, 2, 2, 0, 0, 0), 20);
    }

    /** The best plan, written as a plan, is right in every line; its hours are those of its lines. */
    private static void asItsPage() {
        FigureHouse house = new FigureHouse();
        house.function(0, 7, 3);
        house.function(1, 99, 50);
        for (int f = 0; f < 3; f++) {
            for (int places = 0; places < 4; places++) {
                int o = house.best(f % 2, 500, 30, 2, places, f, 1);
                int c = house.best(f % 2, 500, 30, 2, places, f, 2);
                int m = house.best(f % 2, 500, 30, 2, places, f, 3);
                Due.is("there is one", o > 0, true);
                int plan = Due.plan(house, "a:2;o:" + o + ";c:" + c + ";m:" + m + ";p:" + places + ";f:" + f);
                int page = house.page(f % 2, 500, 30, plan);
                Due.is("all are right", house.wrong(page, 0), 0);
                int pivots = house.paged(page, 9);
                Due.is("its hours", house.best(f % 2, 500, 30, 2, places, f, 0), 10 * pivots + o * (30 - pivots) + c * 30);
            }
        }
    }

    private static void count() {
        FigureHouse house = Due.housed("");
        house.days(3);
        house.slip(0, 3, 0, 1);
        house.slip(0, 3, 0, 1);
        house.slip(0, 3, 0, 1);
        house.mend(1);
        house.set(0);
        house.press(0, 0, 0, 1);
        house.press(0, 1, 0, 1);
        house.press(0, 2, 0, 1);
        house.copy(0);
        house.erratum(0, 0, 1, 1);
        house.other(0);
        house.other(0);
        house.sheet(1);
        Due.feed(house, "a:123");
        long[] want = {3, 1, 1, 1, 3, 1, 1, 3, 1, 1, 2, 1, 5};
        for (int what = 0; what < want.length; what++) {
            Due.is("count " + what, house.count(what), want[what]);
        }
        Due.is("count -1", house.count(-1), -1);
        Due.is("count 13", house.count(13), -1);
    }
}
