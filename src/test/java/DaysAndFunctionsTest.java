/** Promises 1 to 8: a new object, days, as, known, function, exact, whole, nearest. */
final class DaysAndFunctionsTest {
    public static void main(String[] args) {
        aNewObject();
        days();
        asAndKnown();
        functions();
        exact();
        whole();
        nearest();
        Due.end("DaysAndFunctionsTest");
    }

    private static void aNewObject() {
        FigureHouse house = new FigureHouse();
        Due.is("NONE", FigureHouse.NONE, -1);
        for (int what = 0; what <= 12; what++) {
            Due.is("new: count " + what, house.count(what), 0);
        }
        Due.is("new: known", house.known(), 0);
        Due.is("new: fault", house.fault(), 0);
        Due.is("new: rate", house.rate(0), 0);
        Due.is("new: left", house.left(0, 1), -1);
    }

    private static void days() {
        FigureHouse house = new FigureHouse();
        Due.is("days(-1)", house.days(-1), -1);
        Due.is("days(0)", house.days(0), 0);
        Due.is("days(7)", house.days(7), 7);
        Due.is("days(994)", house.days(994), -1);
        Due.is("days(MAX)", house.days(Integer.MAX_VALUE), -1);
        Due.is("days(1001)", house.days(1001), -1);
        Due.is("count(0)", house.count(0), 7);
        Due.is("days(993)", house.days(993), 1000);
        Due.is("days(1)", house.days(1), -1);
        Due.is("days(0) at the end", house.days(0), 1000);
        Due.is("days(1000) at once", new FigureHouse().days(1000), 1000);
    }

    private static void asAndKnown() {
        FigureHouse house = new FigureHouse();
        house.days(5);
        Due.is("known is now", house.known(), 5);
        Due.is("as(6)", house.as(6), false);
        Due.is("as(-2)", house.as(-2), false);
        Due.is("as(3)", house.as(3), true);
        Due.is("known(3)", house.known(), 3);
        house.days(4);
        Due.is("known stays", house.known(), 3);
        Due.is("as(9)", house.as(9), true);
        house.days(1);
        Due.is("known(9), a day that is told", house.known(), 9);
        Due.is("as(11)", house.as(11), false);
        Due.is("known still", house.known(), 9);
        Due.is("as(NONE)", house.as(-1), true);
        Due.is("known is now again", house.known(), 10);
        house.days(1);
        Due.is("known goes with now", house.known(), 11);
    }

    private static void functions() {
        FigureHouse house = new FigureHouse();
        int[][] bad = {{-1, 1, 0}, {3, 1, 0}, {0, 0, 0}, {0, 100, 0}, {0, 1, -1}, {0, 1, 100}};
        for (int[] b : bad) {
            Due.is("function out of bounds", house.function(b[0], b[1], b[2]), -1);
        }
        for (int i = 0; i < 10; i++) {
            Due.is("function " + i, house.function(i % 3, i % 2 == 0 ? 1 : 99, i % 2 == 0 ? 99 : 0), i);
        }
        Due.is("an eleventh function", house.function(0, 1, 1), -1);
        Due.is("count(1)", house.count(1), 10);
    }

    private static FigureHouse three() {
        FigureHouse house = new FigureHouse();
        house.function(0, 1, 0);
        house.function(1, 1, 0);
        house.function(2, 1, 1);
        return house;
    }

    private static void exact() {
        FigureHouse house = three();
        Due.is("root 2, 6", house.exact(0, 2, 6), 1414213);
        Due.is("root 9999, 6", house.exact(0, 9999, 6), 99994999);
        Due.is("root 9801, 0", house.exact(0, 9801, 0), 99);
        Due.is("root 9800, 0", house.exact(0, 9800, 0), 98);
        Due.is("1000 by 7, 6", house.exact(1, 7, 6), 142857142);
        Due.is("1000 by 9999, 0", house.exact(1, 9999, 0), 0);
        Due.is("(1+1+1) by 7", house.exact(2, 1, 2), 42);
        Due.is("99990001 / 7 at 9999", house.exact(2, 9999, 6), 14284285857142L);
        house.function(0, 99, 99);
        Due.is("the greatest root of all", house.exact(3, 9999, 6), 994987437);
        int[][] bad = {{-1, 1, 0}, {4, 1, 0}, {0, 0, 0}, {0, 10000, 0}, {0, 1, -1}, {0, 1, 7}};
        for (int[] b : bad) {
            Due.is("exact of none such", house.exact(b[0], b[1], b[2]), -1);
            Due.is("whole of none such", house.whole(b[0], b[1], b[2]), -1);
            Due.is("nearest of none such", house.nearest(b[0], b[1], b[2]), -1);
        }
    }

    private static void whole() {
        FigureHouse house = three();
        Due.is("root 4", house.whole(0, 4, 0), 1);
        Due.is("root 5", house.whole(0, 5, 6), 0);
        Due.is("1000 by 8", house.whole(1, 8, 0), 1);
        Due.is("1000 by 16, 0", house.whole(1, 16, 0), 0);
        Due.is("1000 by 16, 1", house.whole(1, 16, 1), 1);
        Due.is("1000 by 128, 3", house.whole(1, 128, 3), 0);
        Due.is("1000 by 128, 4", house.whole(1, 128, 4), 1);
        Due.is("1000 by 3, 6", house.whole(1, 3, 6), 0);
        Due.is("(4+2+1) by 7", house.whole(2, 2, 0), 1);
        Due.is("(9+3+1) by 7", house.whole(2, 3, 6), 0);
    }

    private static void nearest() {
        FigureHouse house = three();
        Due.is("root 2, 0", house.nearest(0, 2, 0), 1);
        Due.is("root 3, 0", house.nearest(0, 3, 0), 2);
        Due.is("root 3, 6", house.nearest(0, 3, 6), 1732051);
        Due.is("1000 by 16 is 62.5: the greater", house.nearest(1, 16, 0), 63);
        Due.is("1000 by 80 is 12.5: the greater", house.nearest(1, 80, 0), 13);
        Due.is("1000 by 3, 1", house.nearest(1, 3, 1), 3333);
        Due.is("1000 by 6, 6", house.nearest(1, 6, 6), 166666667);
        Due.is("1000 by 128 is 7.8125, 3", house.nearest(1, 128, 3), 7813);
        Due.is("13 by 7, 0", house.nearest(2, 3, 0), 2);
        Due.is("13 by 7, 6", house.nearest(2, 3, 6), 1857143);
        Due.is("3 by 7, 0", house.nearest(2, 1, 0), 0);
        house.function(0, 99, 99);
        Due.is("root of 99 times 9998 and 99, 6", house.nearest(3, 9998, 6), 994937686);
    }
}
