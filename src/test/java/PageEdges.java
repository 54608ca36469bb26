/** Sentences about pages, their lines, true numbers and columns: promises 14 to 18. */
final class PageEdges {
    private static final int MIN = Integer.MIN_VALUE;
    private static final int MAX = Integer.MAX_VALUE;

    private PageEdges() {
    }

    static void run() {
        boundsOfThePage();
        boundsOfPlaces();
        boundsOfX();
        boundsOfLines();
        twelve();
        refused();
        paged();
        lined();
        blocks();
        trueNumbers();
        pivots();
        columns();
        madeLines();
        trueOf();
        figure();
        columnsThatALineHas();
        fortyLines();
        fortiethLine();
    }

    /** A house with the root of x, this plan and this page, if it is not refused. */
    static FigureHouse paged(String plan, int first, int lines) {
        FigureHouse house = new FigureHouse();
        house.function(0, 1, 0);
        Due.plan(house, plan);
        house.page(0, first, lines, 0);
        return house;
    }

    private static void taken(String plan, int first, int lines, boolean want) {
        Edge.is(plan + " from " + first + ", lines " + lines, paged(plan, first, lines).count(3), Edge.yes(want));
    }

    private static void boundsOfThePage() {
        Edge.of("a FUNCTION, a first x, LINES (2 .. 40), a PLAN: with a 1 .. 50, o 1 .. 4, p 0 .. 5, c 0 .. 6 less p, m o + 2 .. 40, f 0 .. 2,");
        for (int lines = -1; lines <= 42; lines++) {
            taken("a:1;o:1;m:3", 1, lines, lines >= 2 && lines <= 40);
        }
        for (int a = -1; a <= 52; a++) {
            taken(number("a", a) + ";o:1;m:3", 1, 2, a >= 1 && a <= 50);
        }
        for (int o = -1; o <= 6; o++) {
            taken("a:1;m:40;" + number("o", o), 1, 2, o >= 1 && o <= 4);
            for (int m = -1; m <= 42; m++) {
                taken("a:1;" + number("o", o) + ";" + number("m", m), 1, 2, o >= 1 && o <= 4 && m >= o + 2 && m <= 40);
            }
        }
        for (int f = -2; f <= 4; f++) {
            taken("a:1;o:1;m:3;" + number("f", f), 1, 2, f >= 0 && f <= 2);
        }
    }

    private static String number(String label, int value) {
        return label + ":" + value(value);
    }

    private static String value(int value) {
        return value < 0 ? "0-" + -value : "" + value;
    }

    private static void boundsOfPlaces() {
        Edge.of("p 0 .. 5, c 0 .. 6 less p,");
        for (int p = -2; p <= 8; p++) {
            for (int c = -2; c <= 8; c++) {
                boolean fits = p >= 0 && p <= 5 && c >= 0 && c <= 6 - p;
                taken("a:1;o:1;m:3;" + number("p", p) + ";" + number("c", c), 1, 2, fits);
            }
        }
        taken("o:1;m:3", 1, 2, false);
        taken("a:1;m:3", 1, 2, false);
        taken("a:1;o:1", 1, 2, false);
        taken("a:1;o:1;m:3", 1, 2, true);
    }

    private static void boundsOfX() {
        Edge.of("and x of line n, first and n times a, at most 9,999 for all;");
        taken("a:1;o:1;m:3", 0, 2, false);
        taken("a:1;o:1;m:3", -1, 2, false);
        taken("a:1;o:1;m:3", 1, 2, true);
        taken("a:1;o:1;m:3", 9998, 2, true);
        taken("a:1;o:1;m:3", 9999, 2, false);
        taken("a:1;o:1;m:3", 9960, 40, true);
        taken("a:1;o:1;m:3", 9961, 40, false);
        taken("a:50;o:1;m:3", 9949, 2, true);
        taken("a:50;o:1;m:3", 9950, 2, false);
        taken("a:50;o:4;m:40", 8049, 40, true);
        taken("a:50;o:4;m:40", 8050, 40, false);
        taken("a:50;o:4;m:40", MAX, 40, false);
        taken("a:50;o:4;m:40", MAX - 1950, 40, false);
        taken("a:50;o:4;m:40", MIN, 40, false);
        Edge.is(paged("a:50;o:4;m:40", 8049, 40).lined(0, 39, 0), 9999);
    }

    private static void boundsOfLines() {
        Edge.of("of each line h 0 .. 7 (the HANDS), k 0 .. 3, else refused.");
        for (int line : new int[] {0, 1, 2, 5, 6}) {
            for (int h = -2; h <= 9; h++) {
                taken("a:1;o:1;m:3;h:n=" + line + "?" + value(h), 1, 7, h >= 0 && h <= 7);
            }
            for (int k = -2; k <= 5; k++) {
                taken("a:1;o:1;m:3;k:n=" + line + "?" + value(k), 1, 7, k >= 0 && k <= 3);
            }
        }
        taken("a:1;o:1;m:3;h:n>6?8;k:n>6?4", 1, 7, true);
        taken("a:1;o:1;m:3;h:b=2?8", 1, 7, false);
        taken("a:1;o:1;m:3;h:b=2?8", 1, 6, true);
        taken("a:1;o:1;m:3;k:x=7?4", 1, 7, false);
        taken("a:1;o:1;m:3;k:x=7?4", 1, 6, true);
        taken("a:1;o:1;m:3;s:0-1;t:0-9999", 1, 7, true);
        taken("a:1;o:1;m:3;s:9999*9999;t:9999*9999", 1, 7, true);
    }

    private static FigureHouse twelvePages() {
        FigureHouse house = Working.house();
        while (house.count(3) < 12) {
            house.page(1, 1, 2, 1);
        }
        return house;
    }

    private static void twelve() {
        Edge.of("PAGES (12 at most):");
        FigureHouse house = new FigureHouse();
        house.function(0, 1, 0);
        Due.plan(house, "a:1;o:1;m:3");
        for (int i = 0; i < 12; i++) {
            Edge.is(house.page(0, 1, 2 + i, 0), i);
        }
        Edge.is(house.page(0, 1, 2, 0), -1);
        Edge.is(house.count(3), 12);
        Edge.is(house.paged(11, 1), 13);
        Edge.is(house.paged(12, 1), -1);
        Edge.of(14, "refused; there are twelve.");
        Edge.refuses(PageEdges::twelvePages, -1, h -> h.page(0, 7, 8, 0), h -> h.page(1, 1, 2, 1));
    }

    private static void refused() {
        Edge.of(14, "A PAGE: its number.");
        Edge.answers(2, h -> h.page(0, 1, 2, 0), h -> h.page(1, 9998, 2, 1), h -> h.page(0, 1, 40, 1));
        Edge.of(14, "NONE: no such FUNCTION, PLAN, out of bounds,");
        Edge.refuses(-1, h -> h.page(2, 7, 8, 0), h -> h.page(-1, 7, 8, 0), h -> h.page(MAX, 7, 8, 0), h -> h.page(MIN, 7, 8, 0));
        Edge.refuses(-1, h -> h.page(0, 7, 8, 2), h -> h.page(0, 7, 8, -1), h -> h.page(0, 7, 8, MAX), h -> h.page(0, 7, 8, MIN));
        Edge.refuses(-1, h -> h.page(0, 0, 8, 0), h -> h.page(0, 10000, 8, 0), h -> h.page(0, MAX, 8, 0), h -> h.page(0, MIN, 8, 0));
        Edge.refuses(-1, h -> h.page(0, 7, 1, 0), h -> h.page(0, 7, 41, 0), h -> h.page(0, 7, MAX, 0), h -> h.page(0, 7, MIN, 0));
        Edge.refuses(-1, h -> h.page(0, 7, 0, 0), h -> h.page(0, 7, -1, 0), h -> h.page(0, 9951, 8, 0));
        Edge.is(new FigureHouse().page(0, 1, 2, 0), -1);
        Edge.of(14, "refused;");
        Edge.refuses(() -> alsoPlanned("a:1;o:1;m:2"), -1, h -> h.page(0, 7, 8, 2));
        Edge.refuses(() -> alsoPlanned("a:1;o:1;m:3;h:n"), -1, h -> h.page(0, 7, 9, 2));
        Edge.is(alsoPlanned("a:1;o:1;m:3;h:n").page(0, 7, 8, 2), 2);
    }

    private static FigureHouse alsoPlanned(String plan) {
        FigureHouse house = Working.house();
        Due.plan(house, plan);
        return house;
    }

    private static void paged() {
        Edge.of(15, "Of a PAGE: 0 FUNCTION, 1 LINES, 2 interval, 3 order, 4 places, 5 carried, 6 lines of a BLOCK, 7 halves, 8 BLOCKS, 9 PIVOTS.");
        FigureHouse house = Working.house();
        Due.plan(house, "a:9;o:3;p:4;c:2;m:6;f:1");
        house.page(1, 5, 15, 2);
        int[] want = {1, 15, 9, 3, 4, 2, 6, 1, 3, 11};
        for (int what = 0; what < want.length; what++) {
            Edge.is("what " + what, house.paged(2, what), want[what]);
        }
        Edge.of(15, "NONE for others.");
        Edge.refuses(-1, h -> h.paged(2, 0), h -> h.paged(-1, 0), h -> h.paged(MAX, 0), h -> h.paged(MIN, 0));
        Edge.refuses(-1, h -> h.paged(0, -1), h -> h.paged(0, 10), h -> h.paged(0, MAX), h -> h.paged(0, MIN));
        Edge.is(new FigureHouse().paged(0, 1), -1);
    }

    private static void lined() {
        Edge.of(16, "Of a line: 0 x, 1 BLOCK, 2 its place in it, 3 h, 4 s, 5 k, 6 t.");
        FigureHouse house = Working.house();
        Due.plan(house, "a:9;o:3;m:6;h:n%8;s:x;k:b;t:n*b*7");
        house.page(1, 5, 15, 2);
        int[][] want = {{5, 0, 0, 0, 5, 0, 0}, {50, 0, 5, 5, 50, 0, 0}, {59, 1, 0, 6, 59, 1, 42}, {131, 2, 2, 6, 131, 2, 196}};
        int[] lines = {0, 5, 6, 14};
        for (int i = 0; i < lines.length; i++) {
            for (int what = 0; what < 7; what++) {
                Edge.is("line " + lines[i] + ", what " + what, house.lined(2, lines[i], what), want[i][what]);
            }
        }
        Edge.of(16, "NONE for others.");
        Edge.refuses(-1, h -> h.lined(0, 0, -1), h -> h.lined(0, 0, 7), h -> h.lined(0, 0, MAX), h -> h.lined(0, 0, MIN));
        Edge.refuses(-1, h -> h.lined(0, 8, 0), h -> h.lined(0, -1, 0), h -> h.lined(0, MAX, 0), h -> h.lined(0, MIN, 0));
        Edge.refuses(-1, h -> h.lined(2, 0, 0), h -> h.lined(-1, 0, 0), h -> h.lined(MAX, 0, 0), h -> h.lined(MIN, 0, 0));
        Edge.refuses(-1, h -> h.lined(1, 7, 0));
        Edge.answers(56, h -> h.lined(0, 7, 0));
        Edge.answers(15, h -> h.lined(1, 6, 0));
    }

    private static void blocks() {
        Edge.of("BLOCKS: m lines each, the last one as many as there are.");
        for (int m = 3; m <= 40; m++) {
            for (int lines : new int[] {2, 3, 4, 39, 40}) {
                FigureHouse house = paged("a:1;o:1;m:" + m, 1, lines);
                Edge.is(house.paged(0, 8), (lines - 1) / m + 1);
                Edge.is(house.lined(0, 0, 1), 0);
                Edge.is(house.lined(0, lines - 1, 1), (lines - 1) / m);
                Edge.is(house.lined(0, lines - 1, 2), (lines - 1) % m);
            }
        }
        Edge.is(paged("a:1;o:1;m:3", 1, 6).paged(0, 8), 2);
        Edge.is(paged("a:1;o:1;m:3", 1, 7).paged(0, 8), 3);
        Edge.is(paged("a:1;o:1;m:3", 1, 7).lined(0, 5, 1), 1);
        Edge.is(paged("a:1;o:1;m:3", 1, 7).lined(0, 6, 2), 0);
    }

    private static void trueNumbers() {
        Edge.of("TRUE numbers have p and c places.");
        for (int p = 0; p <= 5; p++) {
            for (int c = 0; c <= 6 - p; c++) {
                FigureHouse house = paged("a:1;o:1;m:3;p:" + p + ";c:" + c, 2, 2);
                Edge.is(house.trueOf(0, 0), house.nearest(0, 2, p + c));
                Edge.is(house.trueOf(0, 1), house.nearest(0, 3, p + c));
            }
        }
        FigureHouse house = paged("a:1;o:1;m:4;p:1;c:1", 2, 4);
        Edge.is(house.trueOf(0, 0), 141);
        Edge.is(house.trueOf(0, 1), 173);
        Edge.is(house.trueOf(0, 2), 205);
        Edge.is(house.trueOf(0, 3), 237);
    }

    private static void pivots() {
        Edge.of("The first o + 1 lines of a BLOCK (fewer if it ends) are PIVOTS: NEAREST.");
        for (int o = 1; o <= 4; o++) {
            int m = o + 3;
            for (int lines = 2; lines <= 3 * m; lines++) {
                FigureHouse house = paged("a:1;c:2;o:" + o + ";m:" + m, 1, lines);
                int pivots = 0;
                for (int line = 0; line < lines; line++) {
                    boolean pivot = line % m <= o;
                    pivots += pivot ? 1 : 0;
                    Edge.is(house.kind(0, line, 0), pivot ? 0 : 1);
                    if (pivot) {
                        Edge.is(house.trueOf(0, line), house.nearest(0, 1 + line, 2));
                    }
                }
                Edge.is(house.paged(0, 9), pivots);
            }
        }
        // at a half the greater one, whatever f is: 1,000 by 16 is 62.5
        FigureHouse house = new FigureHouse();
        house.function(1, 1, 0);
        Due.plan(house, "a:1;o:1;m:3;f:2");
        house.page(0, 16, 2, 0);
        Edge.is(house.trueOf(0, 0), 63);
    }

    private static void columns() {
        Edge.of("From the last PIVOT on there are COLUMNS 0 .. o: column 0 the number, "
                + "column j the difference of column j - 1 of this line and of the line ahead.");
        int[] near = {1000, 1414, 1732, 2000, 2236};
        long[][] want = {{1414, 414}, {1732, 318, -96}, {2000, 268, -50, 46}, {2236, 236, -32, 18, -28}};
        for (int o = 1; o <= 4; o++) {
            FigureHouse house = paged("a:1;c:3;m:12;o:" + o, 1, 14);
            for (int column = 0; column <= o; column++) {
                Edge.is(house.figure(0, o, column, 0), want[o - 1][column]);
            }
            int ahead = o - 1;
            Edge.is(Due.answerOf(() -> house.figure(0, ahead, 0, 0)), Due.THROWS);
            for (int line = 0; line <= o; line++) {
                Edge.is(house.figure(0, line, 9, 0), near[line]);
            }
        }
    }

    private static void madeLines() {
        Edge.of("Each further line, MADE: column o stays, then, from column o - 1 down to 0, "
                + "each is its own of the line ahead and the next column's of this line.");
        for (int o = 1; o <= 4; o++) {
            FigureHouse house = paged("a:3;c:4;m:13;o:" + o, 5, 26);
            for (int line = o + 1; line < 26; line++) {
                if (line % 13 <= o) {
                    continue;
                }
                Edge.is(house.figure(0, line, o, 0), house.figure(0, line - 1, o, 0));
                for (int column = o - 1; column >= 0; column--) {
                    long sum = house.figure(0, line - 1, column, 0) + house.figure(0, line, column + 1, 0);
                    Edge.is(house.figure(0, line, column, 0), sum);
                }
                Edge.is(house.trueOf(0, line), house.figure(0, line, 0, 0));
            }
        }
        FigureHouse house = paged("a:1;c:3;m:6;o:2", 1, 6);
        // 1732, 318, -96 go on with 222, 126, 30
        Edge.is(house.figure(0, 3, 1, 0), 222);
        Edge.is(house.figure(0, 3, 0, 0), 1954);
        Edge.is(house.figure(0, 4, 0, 0), 2080);
        Edge.is(house.figure(0, 5, 9, 0), 2110);
        Edge.is(house.figure(0, 5, 2, 0), -96);
    }

    private static void trueOf() {
        Edge.of(17, "TRUE.");
        FigureHouse slipped = Due.housed("");
        slipped.slip(0, 3, 0, 100);
        slipped.slip(0, 5, 9, 100);
        Edge.is(slipped.wrong(0, 0), 5);
        slipped.page(0, 7, 8, 0);
        for (int line = 0; line < 8; line++) {
            Edge.is(slipped.trueOf(0, line), 7 * (line + 1) * (line + 2));
            Edge.is(slipped.trueOf(1, line), 7 * (line + 1) * (line + 2));
            Edge.is(slipped.figure(1, line, 9, 0), 7 * (line + 1) * (line + 2));
        }
        Edge.answers(140, h -> h.trueOf(0, 0));
        Edge.answers(5040, h -> h.trueOf(0, 7));
        Edge.answers(89, h -> h.trueOf(1, 2));
        Edge.answers(67, h -> h.trueOf(1, 6));
        Edge.of(17, "NoSuchElementException: no such line.");
        Edge.throwsOne(h -> h.trueOf(0, 8), h -> h.trueOf(0, -1), h -> h.trueOf(0, MAX), h -> h.trueOf(0, MIN));
        Edge.throwsOne(h -> h.trueOf(1, 7), h -> h.trueOf(2, 0), h -> h.trueOf(-1, 0), h -> h.trueOf(MAX, 0), h -> h.trueOf(MIN, 0));
        Edge.is(Due.answerOf(() -> new FigureHouse().trueOf(0, 0)), Due.THROWS);
    }

    private static void figure() {
        Edge.of(18, "A column (0 .. o; 9: the NUMBER) of FIGURES as known in q.");
        Edge.answers(3920, h -> h.figure(0, 6, 0, 0), h -> h.figure(0, 6, 9, 0), h -> h.figure(0, 6, 0, 3));
        Edge.answers(3935, h -> h.figure(0, 6, 0, 1), h -> h.figure(0, 6, 0, 2));
        Edge.answers(3923, h -> h.figure(0, 6, 9, 1), h -> h.figure(0, 6, 9, 2));
        Edge.answers(3908, h -> h.figure(0, 6, 9, 3));
        Edge.answers(985, h -> h.figure(0, 6, 1, 2));
        Edge.answers(140, h -> h.figure(0, 6, 2, 2), h -> h.figure(0, 2, 2, 0), h -> h.figure(0, 0, 9, 0));
        Edge.of(18, "NoSuchElementException: no such line, q;");
        Edge.throwsOne(h -> h.figure(0, 8, 9, 0), h -> h.figure(0, -1, 9, 0), h -> h.figure(0, MAX, 9, 0), h -> h.figure(0, MIN, 9, 0));
        Edge.throwsOne(h -> h.figure(2, 0, 9, 0), h -> h.figure(-1, 0, 9, 0), h -> h.figure(MAX, 0, 9, 0), h -> h.figure(MIN, 0, 9, 0));
        Edge.throwsOne(h -> h.figure(0, 4, 9, -1), h -> h.figure(0, 4, 9, 4), h -> h.figure(0, 4, 9, MAX), h -> h.figure(0, 4, 9, MIN));
        Edge.throwsOne(h -> h.figure(1, 7, 9, 0));
    }

    private static void columnsThatALineHas() {
        Edge.of(18, "a column that it has not (a PIVOT has none but the NUMBER, the last one of o + 1 all).");
        for (int o = 1; o <= 4; o++) {
            int m = o + 2;
            for (int last = 1; last <= m; last++) {
                FigureHouse house = paged("a:1;m:" + m + ";o:" + o, 1, m + last);
                for (int line = 0; line < m + last; line++) {
                    boolean hasAll = line % m >= o;
                    for (int column = -2; column <= 11; column++) {
                        int l = line, c = column;
                        boolean has = column == 9 || hasAll && column >= 0 && column <= o;
                        long got = Due.answerOf(() -> house.figure(0, l, c, 0));
                        Edge.is("o " + o + ", line " + l + " of " + (m + last) + ", column " + c, Edge.yes(got != Due.THROWS), Edge.yes(has));
                    }
                }
            }
        }
        Edge.throwsOne(h -> h.figure(0, 4, MAX, 0), h -> h.figure(0, 4, MIN, 0), h -> h.figure(0, 2, 3, 0), h -> h.figure(0, 1, 0, 0));
    }

    /** Page 0: 40 lines of 14, 42, .., 11480 in one block of order 2; page 1: the same in blocks of four, of order 1. */
    private static FigureHouse forty() {
        FigureHouse house = new FigureHouse();
        house.function(2, 7, 0);
        Due.plan(house, "a:7;o:2;m:40;k:2");
        Due.plan(house, "a:7;o:1;m:4;k:2;h:b%8");
        house.page(0, 7, 40, 0);
        house.page(0, 7, 40, 1);
        house.slip(0, 39, 0, 1);
        house.slip(1, 39, 9, 168 + 1);
        return house;
    }

    /** The fullest page and the fullest block, by all that is asked of them. */
    private static void fortyLines() {
        Edge.of("LINES (2 .. 40),");
        FigureHouse house = forty();
        Edge.is(house.paged(0, 8), 1);
        Edge.is(house.paged(1, 8), 10);
        Edge.is(house.paged(1, 9), 20);
        Edge.is(house.wrong(0, 0), 1);
        Edge.is(house.fails(0, 0), 1);
        Edge.is(house.fails(1, 0), 1);
        Edge.is(house.unseen(0, 0), 0);
        Edge.is(house.healed(0, 0), 0);
        Edge.is(house.least(0, 0, 0), 1);
        Edge.is(house.ways(0, 0, 0), 3);
        Edge.is(house.first(0, 0, 0, 0, 0), 39);
        Edge.is(house.least(1, 9, 0), 1);
        Edge.is(house.first(1, 9, 0, 0, 0), 39);
        Edge.is(house.least(1, 10, 0), -1);
        Edge.is(house.rate(0), 1000 / (37 + 4));
        Edge.is(house.rate(1), 500 / 2);
        Edge.is(house.set(0), true);
        Edge.is(house.set(1), true);
        Edge.is(house.proof(0, 0), 0);
        Edge.is(house.copy(0), 0);
        Edge.is(house.errors(0), 1);
        Edge.is(house.other(0), 0);
        for (int line = 0; line < 40; line++) {
            Edge.is(house.tell(0, line, 7 * (line + 1) * (line + 2)), true);
        }
        long[] want = {40, 39, 0, 1, 40};
        for (int what = 0; what <= 4; what++) {
            Edge.is(house.compare(0, what), want[what]);
        }
        Edge.is(house.best(0, 7, 40, 7, 0, 0, 3), 40);
    }

    private static void fortiethLine() {
        Edge.of("LINES (2 .. 40),");
        FigureHouse house = forty();
        house.set(0);
        house.sheet(2);
        house.put(0, 39, 11480);
        Edge.is(house.lined(0, 39, 0), 280);
        Edge.is(house.trueOf(0, 39), 11480);
        Edge.is(house.figure(0, 39, 0, 0), 11481);
        Edge.is(house.figure(0, 39, 1, 0), 560);
        Edge.is(house.figure(0, 39, 9, 0), 11481);
        Edge.is(house.kept(0, 39, 0), 11481);
        Edge.is(house.right(0, 39), 11480);
        Edge.is(house.stray(0, 39), 0);
        Edge.is(house.bound(0, 39), 1444);
        Edge.is(house.safe(0, 39), 0);
        Edge.is(house.check(0, 39, 0), 0);
        Edge.is(house.kind(0, 39, 0), 3);
        Edge.is(house.kind(0, 36, 0), 3);
        Edge.is(house.kind(0, 35, 0), 1);
        Edge.is(house.spread(0, 39, 0), 1);
        Edge.is(house.spread(0, 3, 0), 37);
        Edge.is(house.shut(1, 0, 39), 1);
        Edge.is(house.press(0, 39, 12, 1), true);
        Edge.is(house.printed(0, 39), 1000000011481L);
        Edge.is(house.proof(0, 1), 39);
        Edge.is(house.copy(0), 0);
        Edge.is(house.copied(0, 39), 1000000011481L);
        Edge.is(house.erratum(0, 39, 1000000011481L, 11480), 0);
        Edge.is(house.apply(0, 0), 0);
        Edge.is(house.errors(0), 0);
        Edge.is(house.take(0, 39, 0, 39), 2);
        Edge.is(house.figure(0, 39, 9, 0), 11480);
        Edge.is(house.slip(0, 39, 1, 1), 3);
        Edge.is(house.figure(0, 39, 9, 0), 11481);
        Edge.is(house.slip(0, 40, 1, 1), -1);
        Edge.is(house.lined(0, 40, 0), -1);
        Edge.is(Due.answerOf(() -> house.trueOf(0, 40)), Due.THROWS);
        Edge.is(Due.answerOf(() -> house.printed(0, 40)), Due.THROWS);
        Edge.is(Due.answerOf(() -> house.copied(0, 40)), Due.THROWS);
    }
}
