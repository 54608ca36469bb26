/** Sentences about the plan of the fewest hours, and what is counted: promises 57 to 59. */
final class BestEdges {
    private static final int MIN = Integer.MIN_VALUE;
    private static final int MAX = Integer.MAX_VALUE;

    private BestEdges() {
    }

    static void run() {
        bestOfAll();
        hoursOfLines();
        theFewestHours();
        none();
        hours();
        boundsOfBest();
        best();
        refused();
        count();
    }

    /** What is asked of best but its last number, and PIVOT hours. */
    private static final class Asked {
        final int[] function;
        final int first, lines, interval, places, halves, pivotHours;

        Asked(int sort, int a, int b, int... asked) {
            function = new int[] {sort, a, b};
            first = asked[0];
            lines = asked[1];
            interval = asked[2];
            places = asked[3];
            halves = asked[4];
            pivotHours = asked[5];
        }

        FigureHouse house() {
            FigureHouse house = new FigureHouse();
            house.function(function[0], function[1], function[2]);
            house.hours(pivotHours);
            return house;
        }

        long best(int what) {
            return house().best(0, first, lines, interval, places, halves, what);
        }

        /** The hours of a plan by the lines of its page; none if a line is not right. */
        int hoursOf(FigureHouse house, int o, int c, int m) {
            int plan = Due.plan(house, "a:" + interval + ";o:" + o + ";p:" + places + ";c:" + c + ";m:" + m + ";f:" + halves);
            int page = house.page(0, first, lines, plan);
            if (house.wrong(page, 0) != 0) {
                return -1;
            }
            int hours = 0;
            for (int line = 0; line < lines; line++) {
                hours += c + (house.kind(page, line, 0) == 0 ? pivotHours : o);
            }
            return hours;
        }

        /** The best of all plans, each tried as a page: hours, o, c, m; nothing without. */
        int[] tried() {
            int[] best = null;
            FigureHouse house = house();
            for (int o = 1; o <= 4; o++) {
                for (int c = 0; c <= 6 - places; c++) {
                    for (int m = o + 2; m <= 40; m++) {
                        if (house.count(3) == 9) {
                            house = house();
                        }
                        int hours = hoursOf(house, o, c, m);
                        if (hours >= 0 && (best == null || hours < best[0])) {
                            best = new int[] {hours, o, c, m};
                        }
                    }
                }
            }
            return best;
        }

        void isAsTried() {
            int[] want = tried();
            for (int what = 0; what < 4; what++) {
                Edge.is(function[0] + " from " + first + ", what " + what, best(what), want == null ? -1 : want[what]);
            }
        }
    }

    private static void bestOfAll() {
        Edge.of("BEST PLAN for a FUNCTION, a first x, LINES, an interval (1 .. 50), places p (0 .. 5), halves f: "
                + "of orders o (1 .. 4), carried c (0 .. 6 less p), BLOCKS m (o + 2 .. 40) those with which every KEPT is RIGHT without SLIPS;");
        new Asked(0, 80, 62, 438, 34, 7, 1, 2, 50).isAsTried();
        new Asked(1, 22, 3, 193, 26, 2, 4, 1, 50).isAsTried();
        new Asked(1, 1, 0, 16, 12, 16, 0, 0, 10).isAsTried();
        new Asked(1, 1, 0, 16, 12, 16, 0, 1, 10).isAsTried();
        new Asked(1, 1, 0, 16, 12, 16, 0, 2, 10).isAsTried();
        new Asked(2, 5, 3, 1, 40, 1, 0, 0, 100).isAsTried();
        new Asked(2, 5, 3, 1, 21, 1, 5, 0, 3).isAsTried();
        new Asked(0, 1, 0, 1, 20, 1, 3, 1, 1).isAsTried();
        new Asked(0, 99, 99, 8049, 40, 50, 0, 0, 20).isAsTried();
        new Asked(0, 7, 7, 5000, 40, 1, 5, 0, 20).isAsTried();
        // 62.5 and 187.5: without places carried the pivot is 63, or 188, which is not right for each f
        long[][] carried = {{0, 1, 1}, {0, 0, 1}};
        for (int f = 0; f <= 2; f++) {
            Edge.is("62.5, f " + f, new Asked(1, 1, 0, 16, 2, 1, 0, f, 10).best(2), carried[0][f]);
            Edge.is("187.5, f " + f, new Asked(1, 3, 0, 16, 2, 1, 0, f, 10).best(2), carried[1][f]);
            new Asked(1, 1, 0, 16, 2, 1, 0, f, 10).isAsTried();
            new Asked(1, 3, 0, 16, 2, 1, 0, f, 10).isAsTried();
        }
        // slips told do not count
        FigureHouse house = Due.housed("");
        house.slip(0, 4, 0, 1000);
        Edge.is(house.best(0, 7, 8, 7, 0, 0, 0), 40);
    }

    private static void hoursOfLines() {
        Edge.of("HOURS: PIVOT hours (1 .. 100; 10 at first) for each PIVOT, o for each MADE line and c for each line.");
        FigureHouse house = new FigureHouse();
        house.function(2, 7, 0);
        house.function(0, 7, 7);
        Edge.is(house.best(0, 7, 2, 7, 0, 0, 0), 20);
        Edge.is(house.best(0, 7, 40, 7, 0, 0, 0), 3 * 10 + 37 * 2);
        // roots in steps of 1 from 5,000 on with 0 places: one block of order 1 and one place carried
        Edge.is(house.best(1, 5000, 40, 1, 0, 0, 1), 1);
        Edge.is(house.best(1, 5000, 40, 1, 0, 0, 0), 10 * pivots(house) + (40 - pivots(house)) + 40 * house.best(1, 5000, 40, 1, 0, 0, 2));
        for (int hours : new int[] {1, 99, 100}) {
            Edge.is(house.hours(hours), true);
            Edge.is(house.best(0, 7, 2, 7, 0, 0, 0), 2 * hours);
        }
        new Asked(0, 7, 7, 5000, 40, 1, 0, 0, 10).isAsTried();
    }

    private static int pivots(FigureHouse house) {
        int m = house.best(1, 5000, 40, 1, 0, 0, 3);
        int pivots = 0;
        for (int line = 0; line < 40; line++) {
            pivots += line % m <= 1 ? 1 : 0;
        }
        return pivots;
    }

    private static void same(Asked asked, int hours, int o, int c, int m) {
        int[] want = {hours, o, c, m};
        for (int what = 0; what < 4; what++) {
            Edge.is("what " + what, asked.best(what), want[what]);
        }
        asked.isAsTried();
    }

    private static void theFewestHours() {
        Edge.of("The fewest HOURS; of several the least o, then c, then m. There may be none.");
        // two lines: any m of order 1 will do
        same(new Asked(2, 7, 0, 7, 2, 7, 0, 0, 10), 20, 1, 0, 3);
        // four lines by orders 3 and 4 alike, all m of them
        same(new Asked(0, 47, 53, 78, 4, 10, 4, 2, 1), 4, 3, 0, 5);
        // 54 hours by 2, 1, 8 and by 3, 0, 5
        same(new Asked(1, 7, 29, 1068, 14, 26, 1, 2, 4), 54, 2, 1, 8);
        // 40 hours by 3, 1, 7 and by 4, 1, 6
        same(new Asked(1, 58, 58, 132, 12, 1, 3, 2, 2), 40, 3, 1, 7);
        // 99 hours by 2, 1, 8 and by 2, 3, 9 and more
        same(new Asked(2, 12, 92, 7602, 9, 17, 1, 2, 20), 99, 2, 1, 8);
        // 36 hours by 2, 1, 6 and by 3, 1, 5
        same(new Asked(0, 84, 3, 5994, 15, 34, 2, 0, 1), 36, 2, 1, 6);
    }

    private static void none() {
        Edge.of("then c, then m. There may be none.");
        Asked none = new Asked(1, 26, 69, 177, 16, 44, 1, 1, 5);
        Edge.is(none.tried() == null, true);
        for (int what = 0; what < 4; what++) {
            Edge.is(none.best(what), -1);
        }
        Edge.of(58, "NONE: none,");
        Edge.is(new Asked(1, 99, 0, 1, 40, 50, 5, 0, 10).best(0), -1);
    }

    private static void hours() {
        Edge.of(57, "PIVOT hours.");
        Edge.answers(1, h -> Edge.yes(h.hours(1)), h -> Edge.yes(h.hours(100)));
        Edge.of(57, "False: out of bounds.");
        Edge.refuses(0, h -> Edge.yes(h.hours(0)), h -> Edge.yes(h.hours(101)), h -> Edge.yes(h.hours(-1)), h -> Edge.yes(h.hours(MAX)), h -> Edge.yes(h.hours(MIN)));
    }

    private static void boundsOfBest() {
        Edge.of("an interval (1 .. 50), places p (0 .. 5), halves f:");
        FigureHouse house = Working.house();
        for (int interval = -1; interval <= 52; interval++) {
            Edge.is(house.best(0, 7, 2, interval, 0, 0, 1), interval >= 1 && interval <= 50 ? 1 : -1);
        }
        for (int places = -1; places <= 7; places++) {
            Edge.is(house.best(0, 7, 2, 7, places, 0, 1), places >= 0 && places <= 5 ? 1 : -1);
        }
        for (int halves = -1; halves <= 4; halves++) {
            Edge.is(house.best(0, 7, 2, 7, 0, halves, 1), halves >= 0 && halves <= 2 ? 1 : -1);
        }
        for (int lines = -1; lines <= 42; lines++) {
            int want = lines < 2 || lines > 40 ? -1 : lines == 2 ? 1 : 2;
            Edge.is(house.best(0, 7, lines, 7, 0, 0, 1), want);
        }
    }

    private static void best() {
        Edge.of(58, "BEST PLAN: what 0 HOURS, 1 o, 2 c, 3 m.");
        Edge.answers(3 * 7 + 5 * 2, h -> h.best(0, 7, 8, 7, 0, 0, 0));
        Edge.answers(2, h -> h.best(0, 7, 8, 7, 0, 0, 1));
        Edge.answers(0, h -> h.best(0, 7, 8, 7, 0, 0, 2));
        Edge.answers(8, h -> h.best(0, 7, 8, 7, 0, 0, 3));
    }

    private static void refused() {
        Edge.of(58, "no such ones, x above 9,999.");
        Edge.refuses(-1, h -> h.best(2, 7, 8, 7, 0, 0, 0), h -> h.best(-1, 7, 8, 7, 0, 0, 0), h -> h.best(MAX, 7, 8, 7, 0, 0, 0));
        Edge.refuses(-1, h -> h.best(MIN, 7, 8, 7, 0, 0, 0), h -> h.best(0, 0, 8, 7, 0, 0, 0), h -> h.best(0, -1, 8, 7, 0, 0, 0));
        Edge.refuses(-1, h -> h.best(0, MIN, 8, 7, 0, 0, 0), h -> h.best(0, MAX, 8, 7, 0, 0, 0), h -> h.best(0, 10000, 2, 1, 0, 0, 0));
        Edge.refuses(-1, h -> h.best(0, 7, 1, 7, 0, 0, 0), h -> h.best(0, 7, 41, 7, 0, 0, 0), h -> h.best(0, 7, 0, 7, 0, 0, 0));
        Edge.refuses(-1, h -> h.best(0, 7, MAX, 7, 0, 0, 0), h -> h.best(0, 7, MIN, 7, 0, 0, 0), h -> h.best(0, 7, 8, 0, 0, 0, 0));
        Edge.refuses(-1, h -> h.best(0, 7, 8, 51, 0, 0, 0), h -> h.best(0, 7, 8, MAX, 0, 0, 0), h -> h.best(0, 7, 8, MIN, 0, 0, 0));
        Edge.refuses(-1, h -> h.best(0, 7, 8, 7, 6, 0, 0), h -> h.best(0, 7, 8, 7, -1, 0, 0), h -> h.best(0, 7, 8, 7, MAX, 0, 0));
        Edge.refuses(-1, h -> h.best(0, 7, 8, 7, 0, 3, 0), h -> h.best(0, 7, 8, 7, 0, -1, 0), h -> h.best(0, 7, 8, 7, 0, MIN, 0));
        Edge.refuses(-1, h -> h.best(0, 7, 8, 7, 0, 0, 4), h -> h.best(0, 7, 8, 7, 0, 0, -1), h -> h.best(0, 7, 8, 7, 0, 0, MAX), h -> h.best(0, 7, 8, 7, 0, 0, MIN));
        Edge.refuses(-1, h -> h.best(0, 9999, 2, 1, 0, 0, 0), h -> h.best(0, 9950, 2, 50, 0, 0, 0), h -> h.best(0, 8050, 40, 50, 0, 0, 0));
        Edge.answers(14, h -> h.best(0, 9998, 2, 1, 0, 0, 0), h -> h.best(0, 9949, 2, 50, 0, 0, 0), h -> h.best(0, 1, 2, 1, 0, 0, 0));
        Edge.answers(3 * 7 + 37 * 2, h -> h.best(0, 49, 40, 49, 0, 0, 0));
        Edge.is(new FigureHouse().best(0, 7, 8, 7, 0, 0, 0), -1);
    }

    private static void count() {
        Edge.of(59, "0 NOW, 1 FUNCTIONS, 2 PLANS, 3 PAGES, 4 SLIPS, 5 MENDED, 6 PAGES set, 7 press slips that count, "
                + "8 COPIES, 9 ERRATA, 10 OTHERS, 11 SHEETS, 12 bytes of the TAPE.");
        long[] want = {3, 2, 2, 2, 3, 1, 1, 2, 1, 2, 1, 3, 3};
        for (int what = 0; what < want.length; what++) {
            int w = what;
            Edge.answers(want[what], h -> h.count(w));
        }
        FigureHouse house = Working.house();
        house.press(0, 3, 0, 8);
        house.days(1);
        house.mend(1);
        house.mend(2);
        house.set(1);
        house.page(0, 7, 8, 0);
        house.lose(0);
        Edge.is(house.count(7), 2);
        Edge.is(house.count(5), 3);
        Edge.is(house.count(4), 3);
        Edge.is(house.count(6), 2);
        Edge.is(house.count(3), 3);
        Edge.is(house.count(11), 3);
        Edge.of(59, "NONE for others.");
        Edge.refuses(-1, h -> h.count(13), h -> h.count(-1), h -> h.count(MAX), h -> h.count(MIN));
    }
}
