/** Sentences about the fewest slips that explain what is wrong: promises 34 to 36. */
final class LeastEdges {
    private static final int MIN = Integer.MIN_VALUE;
    private static final int MAX = Integer.MAX_VALUE;
    private static final long WITHOUT = -2000000000L;

    private LeastEdges() {
    }

    static void run() {
        oneSlip();
        oneBehindAnother();
        fourAtMost();
        noTwoOfOneLine();
        amountsOfAnySize();
        linesWithEnoughAhead();
        ways();
        first();
        noneAtAll();
        least();
        refusedWays();
        slipsOfFirst();
    }

    private static FigureHouse paged(int o, int m, int lines) {
        return PageEdges.paged("a:1;m:" + m + ";o:" + o, 1, lines);
    }

    private static void found(FigureHouse house, int block, long least, long ways, long... first) {
        int now = house.count(0);
        Edge.is("least", house.least(0, block, now), least);
        Edge.is("ways", house.ways(0, block, now), ways);
        for (int i = 0; i <= first.length; i++) {
            Edge.is("first " + i, house.first(0, block, now, i / 3, i % 3), i < first.length ? first[i] : WITHOUT);
        }
    }

    private static void oneSlip() {
        Edge.of("LEAST of a BLOCK as known in q: the fewest SLIPS (4 at most), each of a MADE line of it (no two of one line) "
                + "and a column (or COPIED) with an AMOUNT (of any size here, not 0), which alone would give "
                + "the same differences of order o + 1 of NUMBERS in it");
        for (int o = 1; o <= 4; o++) {
            found(paged(o, 20, 20), 0, 0, 1);
            for (int column = 0; column <= o; column++) {
                for (int amount : new int[] {1, -1, 1000000, -1000000}) {
                    FigureHouse house = paged(o, 20, 20);
                    int told = column == o ? 9 : column;
                    house.slip(0, o + 1, told, amount);
                    found(house, 0, 1, 1, o + 1, told, amount);
                }
            }
        }
        FigureHouse house = paged(2, 20, 20);
        house.slip(0, 5, 0, 3);
        house.slip(0, 9, 1, 4);
        house.days(1);
        house.mend(0);
        house.days(1);
        house.slip(0, 12, 9, 5);
        Edge.is(house.least(0, 0, 0), 2);
        Edge.is(house.least(0, 0, 1), 1);
        Edge.is(house.first(0, 0, 1, 0, 0), 9);
        Edge.is(house.least(0, 0, 2), 2);
        Edge.is(house.first(0, 0, 2, 1, 0), 12);
    }

    /** What one block is found to have leaves nothing for the next one, of whatever order, that is asked. */
    private static void oneBehindAnother() {
        Edge.of("of a MADE line of it");
        FigureHouse house = new FigureHouse();
        house.function(0, 1, 0);
        for (int o = 1; o <= 4; o++) {
            Due.plan(house, "a:1;m:" + (o + 4) + ";o:" + o);
            house.page(0, 1, 2 * o + 8, o - 1);
            house.slip(o - 1, o + 1, 9, 7);
            house.slip(o - 1, 2 * o + 5, 0, -5);
        }
        int[] orders = {1, 2, 3, 4, 4, 3, 2, 1, 3, 1, 4, 2};
        for (int o : orders) {
            for (int block = 1; block >= 0; block--) {
                Edge.is(house.least(o - 1, block, 0), 1);
                Edge.is(house.ways(o - 1, block, 0), 1);
                Edge.is(house.first(o - 1, block, 0, 0, 0), block * (o + 4) + o + 1);
                Edge.is(house.first(o - 1, block, 0, 0, 1), block == 0 ? 9 : 0);
                Edge.is(house.first(o - 1, block, 0, 0, 2), block == 0 ? 7 : -5);
            }
        }
    }

    private static void fourAtMost() {
        Edge.of("the fewest SLIPS (4 at most),");
        for (int o = 1; o <= 4; o++) {
            FigureHouse house = paged(o, 40, 40);
            int line = o + 1;
            for (int slips = 1; slips <= 4; slips++) {
                house.slip(0, line, 9, slips);
                line += o + 3;
                Edge.is(house.least(0, 0, 0), slips);
                Edge.is(house.ways(0, 0, 0), 1);
                Edge.is(house.first(0, 0, 0, slips - 1, 2), slips);
            }
            house.slip(0, line, 9, 5);
            found(house, 0, -1, -1);
            house.mend(0);
            Edge.is(house.least(0, 0, 0), 4);
        }
    }

    private static void noTwoOfOneLine() {
        Edge.of("(no two of one line)");
        FigureHouse house = paged(2, 20, 20);
        house.slip(0, 8, 0, 2);
        house.slip(0, 8, 1, 3);
        // 2, -4, 2 and 3, -3 make 5, -7, 2: that is 5, -10, 5 and 3, -3 behind, or 5, -5 and -2, 2 behind
        found(house, 0, 2, 2, 8, 0, 5, 9, 1, 3);
        FigureHouse many = paged(4, 20, 20);
        for (int column = 0; column < 4; column++) {
            many.slip(0, 19, column, 1);
        }
        many.slip(0, 19, 9, 1);
        found(many, 0, 1, 5, 19, 0, 5);
        FigureHouse undone = paged(2, 20, 20);
        undone.slip(0, 8, 0, 2);
        undone.slip(0, 8, 0, -2);
        found(undone, 0, 0, 1);
    }

    private static void amountsOfAnySize() {
        Edge.of("with an AMOUNT (of any size here, not 0),");
        FigureHouse house = paged(3, 20, 20);
        for (int i = 0; i < 60; i++) {
            house.slip(0, 7, 2, -1000000);
        }
        found(house, 0, 1, 1, 7, 2, -60000000);
        FigureHouse beyond = paged(4, 20, 20);
        for (int i = 0; i < 60; i++) {
            beyond.slip(0, 17 + i % 3, 9, i % 3 == 1 ? -1000000 : 1000000);
        }
        // 20, -120, 320 millions: that is 20, -80, 120 of column 0 and -40, 200 copied
        found(beyond, 0, 2, 1, 17, 0, 20000000, 18, 9, -40000000);
    }

    private static void linesWithEnoughAhead() {
        Edge.of("in it (of lines that have o + 1 lines of the BLOCK ahead).");
        for (int o = 1; o <= 4; o++) {
            // a block that ends with its first made line, one that has pivots alone, and what another has
            FigureHouse house = paged(o, o + 2, 2 * o + 5);
            house.slip(0, o + 1, 9, 7);
            found(house, 0, 1, o + 1, o + 1, 0, 7);
            found(house, 1, 0, 1);
            found(house, 2, 0, 1);
            house.slip(0, 2 * o + 3, 0, -3);
            found(house, 0, 1, o + 1, o + 1, 0, 7);
            found(house, 1, 1, o + 1, 2 * o + 3, 0, -3);
            found(house, 2, 0, 1);
        }
    }

    private static void ways() {
        Edge.of("WAYS: how many such sets there are;");
        for (int o = 1; o <= 4; o++) {
            for (int column = 0; column <= o; column++) {
                int told = column == o ? 9 : column;
                FigureHouse last = paged(o, 20, 20);
                last.slip(0, 19, told, 6);
                found(last, 0, 1, o + 1, 19, 0, 6);
                FigureHouse ahead = paged(o, 20, 20);
                ahead.slip(0, 18, told, 6);
                found(ahead, 0, 1, 1, 18, told, 6);
                ahead.slip(0, 19, 9, 1000);
                Edge.is(ahead.least(0, 0, 0), 2);
                Edge.is(ahead.ways(0, 0, 0), (o + 1) * (o + 1));
            }
        }
    }

    private static void first() {
        Edge.of("FIRST is the one in which, line after line, the first that differs has the lower column (COPIED is the greatest).");
        FigureHouse house = paged(2, 20, 20);
        house.slip(0, 17, 1, 1);
        house.slip(0, 18, 0, -3);
        // 1, -4, 6: column 1 and then -3, 6 of column 0, or copied and then -1, 3 copied; no column 0
        found(house, 0, 2, 2, 17, 1, 1, 18, 0, -3);
        FigureHouse last = paged(2, 20, 20);
        last.slip(0, 10, 9, 8);
        last.slip(0, 18, 1, 3);
        last.slip(0, 19, 9, 100);
        found(last, 0, 3, 9, 10, 9, 8, 18, 0, 3, 19, 0, 103);
    }

    private static void noneAtAll() {
        Edge.of("(COPIED is the greatest). There may be none.");
        FigureHouse house = paged(1, 40, 40);
        for (int line = 3; line < 40; line += 5) {
            house.slip(0, line, 0, line);
        }
        found(house, 0, -1, -1);
    }

    private static void least() {
        Edge.of(34, "LEAST of a BLOCK.");
        Edge.answers(0, h -> h.least(0, 0, 0), h -> h.least(1, 0, 3), h -> h.least(1, 2, 3));
        Edge.answers(2, h -> h.least(0, 0, 3), h -> h.least(0, 0, 1));
        Edge.of(34, "NONE: none, no such BLOCK, q.");
        Edge.refuses(-1, h -> h.least(0, 1, 0), h -> h.least(0, -1, 0), h -> h.least(0, MAX, 0), h -> h.least(0, MIN, 0));
        Edge.refuses(-1, h -> h.least(2, 0, 0), h -> h.least(-1, 0, 0), h -> h.least(MAX, 0, 0), h -> h.least(MIN, 0, 0));
        Edge.refuses(-1, h -> h.least(0, 0, 4), h -> h.least(0, 0, -1), h -> h.least(0, 0, MAX), h -> h.least(0, 0, MIN));
        Edge.refuses(-1, h -> h.least(1, 3, 3));
    }

    private static void refusedWays() {
        Edge.of(35, "WAYS.");
        Edge.answers(1, h -> h.ways(0, 0, 0), h -> h.ways(1, 0, 3), h -> h.ways(1, 2, 3));
        Edge.answers(9, h -> h.ways(0, 0, 3));
        Edge.of(35, "NONE likewise.");
        Edge.refuses(-1, h -> h.ways(0, 1, 0), h -> h.ways(0, -1, 0), h -> h.ways(0, MAX, 0), h -> h.ways(0, MIN, 0));
        Edge.refuses(-1, h -> h.ways(2, 0, 0), h -> h.ways(-1, 0, 0), h -> h.ways(MAX, 0, 0), h -> h.ways(MIN, 0, 0));
        Edge.refuses(-1, h -> h.ways(0, 0, 4), h -> h.ways(0, 0, -1), h -> h.ways(0, 0, MAX), h -> h.ways(0, 0, MIN));
        Edge.refuses(-1, h -> h.ways(1, 3, 3));
    }

    private static void slipsOfFirst() {
        Edge.of(36, "Of SLIP i of FIRST (by lines; of one line by columns): 0 the line, 1 the column, 2 the AMOUNT.");
        long[][] want = {{6, 0, -12}, {7, 0, 15}};
        for (int i = 0; i < 2; i++) {
            for (int what = 0; what < 3; what++) {
                int n = i, w = what;
                Edge.answers(want[i][what], h -> h.first(0, 0, 3, n, w));
            }
        }
        Edge.of(36, "-2,000,000,000 without.");
        Edge.refuses(WITHOUT, h -> h.first(0, 0, 3, 2, 0), h -> h.first(0, 0, 3, -1, 0), h -> h.first(0, 0, 3, MAX, 0), h -> h.first(0, 0, 3, MIN, 0));
        Edge.refuses(WITHOUT, h -> h.first(0, 0, 3, 0, 3), h -> h.first(0, 0, 3, 0, -1), h -> h.first(0, 0, 3, 0, MAX), h -> h.first(0, 0, 3, 0, MIN));
        Edge.refuses(WITHOUT, h -> h.first(0, 1, 3, 0, 0), h -> h.first(0, -1, 3, 0, 0), h -> h.first(0, MAX, 3, 0, 0), h -> h.first(0, MIN, 3, 0, 0));
        Edge.refuses(WITHOUT, h -> h.first(2, 0, 3, 0, 0), h -> h.first(-1, 0, 3, 0, 0), h -> h.first(MAX, 0, 3, 0, 0), h -> h.first(MIN, 0, 3, 0, 0));
        Edge.refuses(WITHOUT, h -> h.first(0, 0, 4, 0, 0), h -> h.first(0, 0, -1, 0, 0), h -> h.first(0, 0, MAX, 0, 0), h -> h.first(0, 0, MIN, 0, 0));
        Edge.refuses(WITHOUT, h -> h.first(0, 0, 0, 0, 0), h -> h.first(1, 0, 3, 0, 0), h -> h.first(1, 3, 3, 0, 0));
    }
}
