/** Sentences about functions and their figures: promises 5 to 8. */
final class FunctionEdges {
    private static final int MIN = Integer.MIN_VALUE;
    private static final int MAX = Integer.MAX_VALUE;

    private FunctionEdges() {
    }

    static void run() {
        ten();
        sorts();
        bounds();
        exact();
        whole();
        nearest();
        refused();
    }

    private static FigureHouse of(int sort, int a, int b) {
        FigureHouse house = new FigureHouse();
        house.function(sort, a, b);
        return house;
    }

    private static void ten() {
        Edge.of("FUNCTIONS (10 at most) of x (1 .. 9,999):");
        FigureHouse house = new FigureHouse();
        for (int i = 0; i < 10; i++) {
            Edge.is(house.function(i % 3, 1 + i, i), i);
        }
        Edge.is(house.function(0, 1, 1), -1);
        Edge.is(house.count(1), 10);
        Edge.is(house.exact(9, 1, 0), 4);
        Edge.is(house.exact(9, 9999, 0), 316);
        Edge.of(5, "A FUNCTION: its number.");
        Edge.answers(2, h -> h.function(0, 1, 0), h -> h.function(1, 1, 0), h -> h.function(2, 99, 99));
        Edge.of(5, "NONE: out of bounds, there are ten.");
        Edge.refuses(FunctionEdges::full, -1, h -> h.function(0, 1, 1), h -> h.function(2, 99, 99));
        Edge.refuses(-1, h -> h.function(3, 1, 0), h -> h.function(-1, 1, 0));
    }

    private static FigureHouse full() {
        FigureHouse house = Working.house();
        while (house.count(1) < 10) {
            house.function(0, 1, house.count(1));
        }
        return house;
    }

    private static void sorts() {
        Edge.of("sort 0: the square root of a x + b; 1: 1,000 a by (x + b); 2: (x times x + a x + b) by 7");
        Edge.is(of(0, 3, 4).exact(0, 7, 0), 5);
        Edge.is(of(0, 3, 4).whole(0, 7, 6), 1);
        Edge.is(of(1, 3, 5).exact(0, 7, 0), 250);
        Edge.is(of(1, 3, 5).whole(0, 7, 0), 1);
        Edge.is(of(2, 3, 7).exact(0, 7, 0), 11);
        Edge.is(of(2, 3, 7).whole(0, 7, 0), 1);
    }

    private static void bounds() {
        Edge.of("(a 1 .. 99, b 0 .. 99).");
        for (int sort = 0; sort < 3; sort++) {
            int s = sort;
            Edge.answers(2, h -> h.function(s, 1, 0), h -> h.function(s, 99, 0), h -> h.function(s, 1, 99), h -> h.function(s, 99, 99));
            Edge.refuses(-1, h -> h.function(s, 0, 0), h -> h.function(s, 100, 0), h -> h.function(s, 1, -1), h -> h.function(s, 1, 100));
        }
        Edge.refuses(-1, h -> h.function(MIN, 1, 0), h -> h.function(MAX, 1, 0), h -> h.function(0, MIN, 0));
        Edge.refuses(-1, h -> h.function(0, MAX, 0), h -> h.function(0, 1, MIN), h -> h.function(0, 1, MAX));
        Edge.is(of(0, 99, 99).exact(0, 9999, 6), 994987437);
        Edge.is(of(0, 99, 0).exact(0, 9900, 6), 990000000);
        Edge.is(of(0, 99, 0).whole(0, 9900, 6), 1);
        Edge.is(of(0, 1, 0).exact(0, 1, 6), 1000000);
        Edge.is(of(1, 99, 0).exact(0, 1, 6), 99000000000L);
        Edge.is(of(1, 1, 99).exact(0, 9999, 6), 99029);
        Edge.is(of(2, 99, 99).exact(0, 9999, 6), 14424285857142L);
        Edge.is(of(2, 1, 0).exact(0, 1, 6), 285714);
    }

    private static void exact() {
        Edge.of("EXACT to P places (0 .. 6): the greatest whole number not above the function times 10 to the P.");
        Edge.is(of(0, 1, 0).exact(0, 9801, 0), 99);
        Edge.is(of(0, 1, 0).exact(0, 9800, 0), 98);
        Edge.is(of(0, 1, 0).exact(0, 9802, 0), 99);
        Edge.is(of(0, 1, 0).exact(0, 2, 6), 1414213);
        Edge.is(of(0, 1, 0).exact(0, 3, 6), 1732050);
        Edge.is(of(1, 1, 0).exact(0, 16, 0), 62);
        Edge.is(of(1, 1, 0).exact(0, 16, 1), 625);
        Edge.is(of(1, 2, 0).exact(0, 3, 6), 666666666);
        Edge.is(of(2, 1, 4).exact(0, 1, 0), 0);
        Edge.is(of(2, 1, 5).exact(0, 1, 0), 1);
        Edge.is(of(2, 1, 4).exact(0, 1, 6), 857142);
        Edge.of("A number of P places is told as it stands without its point.");
        long[] want = {125, 1250, 12500, 125000, 1250000, 12500000, 125000000};
        for (int places = 0; places <= 6; places++) {
            Edge.is(of(1, 1, 0).exact(0, 8, places), want[places]);
            Edge.is(of(1, 1, 0).nearest(0, 8, places), want[places]);
        }
        Edge.of(6, "EXACT.");
        Edge.answers(14, h -> h.exact(0, 7, 0));
        Edge.answers(11111, h -> h.exact(1, 9, 2));
    }

    private static void whole() {
        Edge.of(7, "Whether EXACT is all of it (1), or some is left (0).");
        for (int places = 0; places <= 6; places++) {
            // 1000 by 64 is 15.625, 39,000 by 9,984 is 3.90625
            Edge.is(of(1, 1, 0).whole(0, 64, places), places < 3 ? 0 : 1);
            Edge.is(of(1, 39, 0).whole(0, 9984, places), places < 5 ? 0 : 1);
            Edge.is(of(0, 1, 0).whole(0, 9801, places), 1);
            Edge.is(of(0, 1, 0).whole(0, 9800, places), 0);
            Edge.is(of(2, 1, 5).whole(0, 1, places), 1);
            Edge.is(of(2, 1, 4).whole(0, 1, places), 0);
        }
        // 1000 by 512 is 1.953125, six places; the others have more
        Edge.is(of(1, 1, 0).whole(0, 512, 6), 1);
        Edge.is(of(1, 1, 0).whole(0, 1024, 6), 0);
        Edge.is(of(1, 1, 0).whole(0, 2048, 6), 0);
    }

    private static void nearest() {
        Edge.of("NEAREST to P places: the whole number nearest to the function times 10 to the P; at a half the greater one.");
        Edge.is(of(1, 1, 0).nearest(0, 16, 0), 63);
        Edge.is(of(1, 3, 0).nearest(0, 16, 0), 188);
        Edge.is(of(1, 1, 0).nearest(0, 17, 0), 59);
        Edge.is(of(1, 1, 0).nearest(0, 19, 0), 53);
        Edge.is(of(1, 9, 0).nearest(0, 2001, 0), 4);
        Edge.is(of(1, 9, 0).nearest(0, 2000, 0), 5);
        Edge.is(of(1, 9, 0).nearest(0, 1999, 0), 5);
        Edge.is(of(1, 9, 0).nearest(0, 2001, 1), 45);
        // 1000 by 1024 is 0.9765625: a half of the sixth place
        Edge.is(of(1, 1, 0).exact(0, 1024, 6), 976562);
        Edge.is(of(1, 1, 0).nearest(0, 1024, 6), 976563);
        Edge.is(of(1, 3, 0).nearest(0, 1024, 6), 2929688);
        Edge.is(of(1, 1, 0).nearest(0, 1023, 6), 977517);
        Edge.is(of(1, 1, 0).nearest(0, 2048, 6), 488281);
        Edge.is(of(0, 1, 0).nearest(0, 2, 6), 1414214);
        Edge.is(of(0, 1, 0).nearest(0, 6, 0), 2);
        Edge.is(of(0, 1, 0).nearest(0, 7, 0), 3);
        Edge.is(of(2, 1, 1).nearest(0, 1, 0), 0);
        Edge.is(of(2, 1, 2).nearest(0, 1, 0), 1);
        Edge.of(8, "NEAREST.");
        Edge.answers(63, h -> h.nearest(1, 16, 0));
        Edge.answers(11, h -> h.nearest(0, 6, 0));
    }

    private static void refused() {
        Edge.of(6, "NONE: no such FUNCTION, x, P.");
        Edge.refuses(-1, h -> h.exact(2, 1, 0), h -> h.exact(-1, 1, 0), h -> h.exact(MAX, 1, 0), h -> h.exact(MIN, 1, 0));
        Edge.refuses(-1, h -> h.exact(0, 0, 0), h -> h.exact(0, 10000, 0), h -> h.exact(0, MAX, 0), h -> h.exact(0, MIN, 0));
        Edge.refuses(-1, h -> h.exact(0, 1, 7), h -> h.exact(0, 1, -1), h -> h.exact(0, 1, MAX), h -> h.exact(0, 1, MIN));
        Edge.answers(1, h -> h.exact(0, 1, 0));
        Edge.answers(14292856285L, h -> h.exact(0, 9999, 3));
        Edge.of(7, "NONE likewise.");
        Edge.refuses(-1, h -> h.whole(2, 1, 0), h -> h.whole(-1, 1, 0), h -> h.whole(0, 0, 0), h -> h.whole(0, 10000, 0));
        Edge.refuses(-1, h -> h.whole(0, 1, 7), h -> h.whole(0, 1, -1), h -> h.whole(MAX, MAX, MAX), h -> h.whole(MIN, MIN, MIN));
        Edge.answers(1, h -> h.whole(0, 7, 0), h -> h.whole(0, 7, 6));
        Edge.answers(0, h -> h.whole(0, 9999, 6), h -> h.whole(0, 1, 0));
        Edge.of(8, "NONE likewise.");
        Edge.refuses(-1, h -> h.nearest(2, 1, 0), h -> h.nearest(-1, 1, 0), h -> h.nearest(0, 0, 0), h -> h.nearest(0, 10000, 0));
        Edge.refuses(-1, h -> h.nearest(0, 1, 7), h -> h.nearest(0, 1, -1), h -> h.nearest(MAX, MAX, MAX), h -> h.nearest(MIN, MIN, MIN));
        Edge.answers(1, h -> h.nearest(0, 1, 0));
    }
}
