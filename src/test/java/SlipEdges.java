/** Sentences about slips, what is known of them, and the figures that are kept: promises 19 to 25. */
final class SlipEdges {
    private static final int MIN = Integer.MIN_VALUE;
    private static final int MAX = Integer.MAX_VALUE;

    private SlipEdges() {
    }

    static void run() {
        linesAndColumns();
        amounts();
        copied();
        added();
        sixty();
        slip();
        mended();
        mend();
        knownUpTo();
        kinds();
        doubted();
        kind();
        keptAtHalves();
        keptBelowZero();
        kept();
        rightAtHalves();
        right();
        wrong();
        stray();
    }

    // ---- telling slips

    private static void linesAndColumns() {
        Edge.of("of a MADE line: a column 0 .. o - 1: that sum is off by an AMOUNT");
        for (int o = 1; o <= 4; o++) {
            int m = o + 3;
            for (int line = 0; line < 2 * m; line++) {
                FigureHouse house = PageEdges.paged("a:1;m:" + m + ";o:" + o, 1, 2 * m);
                int slips = 0;
                for (int column = -2; column <= 11; column++) {
                    boolean may = line % m > o && (column == 9 || column >= 0 && column < o);
                    Edge.is("o " + o + ", line " + line + ", column " + column, house.slip(0, line, column, 1), may ? slips : -1);
                    slips += may ? 1 : 0;
                }
                Edge.is(house.count(4), slips);
            }
        }
        Edge.of("and all that leans on it;");
        FigureHouse house = Due.housed("");
        house.slip(0, 4, 0, 10);
        house.slip(0, 5, 1, 1000);
        long[][] want = {{140, 56, 14}, {220, 70, 14}, {1304, 1084, 14}, {2402, 1098, 14}, {3514, 1112, 14}};
        for (int line = 3; line < 8; line++) {
            for (int column = 0; column <= 2; column++) {
                Edge.is(house.figure(0, line, column, 0), want[line - 3][column]);
            }
            Edge.is(house.figure(0, line, 9, 0), want[line - 3][0]);
        }
        Edge.is(house.figure(0, 2, 9, 0), 84);
    }

    private static void amounts() {
        Edge.of("an AMOUNT (-1,000,000 .. 1,000,000, not 0),");
        Edge.answers(3, h -> h.slip(0, 3, 0, 1000000), h -> h.slip(0, 3, 0, -1000000), h -> h.slip(0, 3, 9, 1), h -> h.slip(0, 3, 9, -1));
        Edge.refuses(-1, h -> h.slip(0, 3, 0, 0), h -> h.slip(0, 3, 0, 1000001), h -> h.slip(0, 3, 0, -1000001));
        Edge.refuses(-1, h -> h.slip(0, 3, 9, 0), h -> h.slip(0, 3, 9, MAX), h -> h.slip(0, 3, 9, MIN));
        FigureHouse house = Due.housed("");
        house.slip(0, 3, 0, 1000000);
        Edge.is(house.figure(0, 7, 0, 0), 1000504);
        house.slip(0, 4, 0, -1000000);
        Edge.is(house.figure(0, 7, 0, 0), 504);
    }

    private static void copied() {
        Edge.of("or COPIED (column 9): the number in the table is off, and nothing leans on that.");
        FigureHouse house = Due.housed("");
        house.slip(0, 4, 9, 1000000);
        Edge.is(house.figure(0, 4, 9, 0), 1000210);
        for (int column = 0; column <= 2; column++) {
            Edge.is(house.figure(0, 4, column, 0), new long[] {210, 70, 14}[column]);
        }
        Edge.is(house.figure(0, 3, 9, 0), 140);
        Edge.is(house.figure(0, 5, 9, 0), 294);
        Edge.is(house.figure(0, 5, 1, 0), 84);
    }

    private static void added() {
        Edge.of("Of one line and column all AMOUNTS are added.");
        FigureHouse house = PageEdges.paged("a:1;o:4;m:40", 1, 40);
        long[] without = {house.trueOf(0, 5), house.trueOf(0, 39)};
        for (int i = 0; i < 59; i++) {
            house.slip(0, 5, 3, 1000000);
        }
        house.slip(0, 5, 3, -1);
        // column 3 is added up three times more: the last of 35 lines has 37 over 3 times the amount
        Edge.is(house.figure(0, 5, 9, 0), without[0] + 58999999L);
        Edge.is(house.figure(0, 39, 9, 0), without[1] + 7770 * 58999999L);
        FigureHouse opposed = Due.housed("");
        opposed.slip(0, 4, 9, 7);
        opposed.slip(0, 4, 0, 5);
        opposed.slip(0, 4, 9, -7);
        Edge.is(opposed.figure(0, 4, 9, 0), 215);
        opposed.slip(0, 4, 0, -5);
        Edge.is(opposed.figure(0, 4, 9, 0), 210);
    }

    private static FigureHouse sixtySlips() {
        FigureHouse house = Working.house();
        while (house.count(4) < 60) {
            house.slip(0, 7, 9, house.count(4) % 2 == 0 ? 1 : -1);
        }
        return house;
    }

    private static void sixty() {
        Edge.of("SLIPS (60 at most)");
        FigureHouse house = Due.housed("");
        for (int i = 0; i < 60; i++) {
            Edge.is(house.slip(0, 7, 0, 1), i);
        }
        Edge.is(house.figure(0, 7, 9, 0), 564);
        Edge.is(house.slip(0, 7, 0, 1), -1);
        Edge.is(house.figure(0, 7, 9, 0), 564);
        Edge.is(house.count(4), 60);
        Edge.is(house.mend(59), true);
        Edge.is(house.mend(60), false);
        Edge.of(19, "there are 60.");
        Edge.refuses(SlipEdges::sixtySlips, -1, h -> h.slip(0, 3, 0, 1), h -> h.slip(0, 7, 9, 1));
        FigureHouse mended = sixtySlips();
        mended.mend(5);
        Edge.is(mended.slip(0, 3, 0, 1), -1);
    }

    private static void slip() {
        Edge.of(19, "A SLIP: its number.");
        FigureHouse house = Working.house();
        Edge.is(house.slip(0, 3, 0, 1), 3);
        Edge.is(house.slip(0, 3, 0, 1), 4);
        Edge.is(house.slip(1, 2, 9, -1), 5);
        Edge.of(19, "NONE: no such line that is MADE, column, AMOUNT;");
        Edge.refuses(-1, h -> h.slip(0, 2, 0, 1), h -> h.slip(0, 0, 9, 1), h -> h.slip(0, 8, 0, 1), h -> h.slip(0, -1, 9, 1));
        Edge.refuses(-1, h -> h.slip(0, MAX, 0, 1), h -> h.slip(0, MIN, 0, 1), h -> h.slip(1, 7, 0, 1), h -> h.slip(1, 3, 0, 1));
        Edge.refuses(-1, h -> h.slip(2, 3, 0, 1), h -> h.slip(-1, 3, 0, 1), h -> h.slip(MAX, 3, 0, 1), h -> h.slip(MIN, 3, 0, 1));
        Edge.refuses(-1, h -> h.slip(0, 3, 2, 1), h -> h.slip(0, 3, -1, 1), h -> h.slip(0, 3, 8, 1), h -> h.slip(0, 3, 10, 1));
        Edge.refuses(-1, h -> h.slip(0, 3, MAX, 1), h -> h.slip(0, 3, MIN, 1), h -> h.slip(0, 3, 4, 1), h -> h.slip(1, 2, 1, 1));
        Edge.refuses(-1, h -> h.slip(0, 3, 0, 0), h -> h.slip(0, 3, 0, 1000001), h -> h.slip(0, 3, 0, MIN), h -> h.slip(0, 3, 0, MAX));
        Edge.is(new FigureHouse().slip(0, 3, 0, 1), -1);
    }

    private static void mended() {
        Edge.of("A SLIP may be MENDED.");
        FigureHouse house = Due.housed("");
        house.slip(0, 4, 0, 5);
        house.slip(0, 4, 0, 7);
        house.slip(0, 6, 1, 100);
        Edge.is(house.mend(1), true);
        Edge.is(house.figure(0, 4, 9, 0), 215);
        Edge.is(house.count(5), 1);
        Edge.is(house.count(4), 3);
        Edge.of("MENDING opens just what leans on it.");
        Edge.is(house.figure(0, 3, 9, 0), 140);
        Edge.is(house.figure(0, 5, 9, 0), 299);
        Edge.is(house.figure(0, 7, 9, 0), 504 + 5 + 200);
        house.mend(0);
        Edge.is(house.figure(0, 5, 9, 0), 294);
        Edge.is(house.figure(0, 6, 1, 0), 198);
        Edge.is(house.figure(0, 7, 9, 0), 504 + 200);
    }

    private static void mend() {
        Edge.of(20, "A SLIP is MENDED.");
        Edge.answers(1, h -> Edge.yes(h.mend(1)), h -> Edge.yes(h.mend(2)));
        Edge.of(20, "False: no such one, it is.");
        Edge.refuses(0, h -> Edge.yes(h.mend(3)), h -> Edge.yes(h.mend(-1)), h -> Edge.yes(h.mend(MAX)), h -> Edge.yes(h.mend(MIN)));
        Edge.refuses(0, h -> Edge.yes(h.mend(0)));
        Edge.is(new FigureHouse().mend(0), false);
        FigureHouse house = Working.house();
        house.days(1);
        house.mend(0);
        // still mended on day 3
        Edge.is(house.kind(0, 4, 3), 2);
        Edge.is(house.figure(0, 4, 9, 3), 2100);
    }

    private static void knownUpTo() {
        Edge.of("FIGURES as known in q: those of a line by SLIPS told up to q and not MENDED up to q: "
                + "columns as they were made, the NUMBER: column 0 and what was COPIED.");
        FigureHouse house = Due.housed("");
        house.days(2);
        house.slip(0, 4, 0, 10);
        house.slip(0, 4, 9, 100);
        house.days(2);
        house.mend(0);
        house.days(2);
        house.mend(1);
        long[] column = {210, 210, 220, 220, 210, 210, 210};
        long[] number = {210, 210, 320, 320, 310, 310, 210};
        for (int q = 0; q <= 6; q++) {
            Edge.is(house.figure(0, 4, 0, q), column[q]);
            Edge.is(house.figure(0, 4, 9, q), number[q]);
            Edge.is(house.figure(0, 5, 9, q), column[q] + 84);
        }
        house.slip(0, 5, 9, 1);
        house.mend(2);
        Edge.is(house.figure(0, 5, 9, 6), 294);
    }

    // ---- kinds

    private static void kinds() {
        Edge.of("KIND of a line as known in q: 0 PIVOT, 1 MADE, 2 MENDED (a SLIP of it was MENDED by q),");
        FigureHouse house = Due.housed(";k:n=7?3");
        for (int line = 0; line < 8; line++) {
            Edge.is(house.kind(0, line, 0), line <= 2 ? 0 : 1);
        }
        house.days(1);
        house.slip(0, 6, 0, 1);
        house.slip(0, 6, 9, 1);
        house.days(1);
        house.mend(1);
        long[] want = {1, 3, 2};
        for (int q = 0; q <= 2; q++) {
            Edge.is(house.kind(0, 6, q), want[q]);
            Edge.is(house.kind(0, 7, q), q == 0 ? 1 : 3);
            Edge.is(house.kind(0, 3, q), 1);
        }
        house.slip(0, 6, 1, 1);
        Edge.is(house.kind(0, 6, 2), 2);
        Edge.is(house.kind(0, 5, 2), 3);
    }

    /** One check alone fails, at a line where a copied slip is: so far ahead of it and no farther lines are doubted. */
    private static void doubted() {
        Edge.of("3 DOUBTED (not MENDED, a PIVOT or MADE: a check fails at this line, or at one up to o + 1 lines behind it in its BLOCK).");
        for (int o = 1; o <= 4; o++) {
            int m = 2 * o + 5;
            for (int at = 0; at < 2 * m; at++) {
                if (at % m <= o) {
                    continue;
                }
                FigureHouse house = PageEdges.paged("a:1;m:" + m + ";o:" + o + ";k:n=" + at + "?3;t:9999*9", 1, 2 * m);
                house.slip(0, at, 9, 1000000);
                for (int line = 0; line < 2 * m; line++) {
                    boolean doubted = line / m == at / m && line <= at && at <= line + o + 1;
                    int kind = line % m <= o ? 0 : 1;
                    Edge.is("o " + o + ", at " + at + ", line " + line, house.kind(0, line, 0), doubted ? 3 : kind);
                }
            }
        }
    }

    private static void kind() {
        Edge.of(21, "KIND as known in q.");
        Edge.answers(0, h -> h.kind(0, 0, 0), h -> h.kind(0, 2, 0), h -> h.kind(1, 6, 3), h -> h.kind(0, 1, 2));
        Edge.answers(1, h -> h.kind(0, 3, 0), h -> h.kind(1, 5, 3), h -> h.kind(0, 7, 3));
        Edge.answers(2, h -> h.kind(0, 4, 3));
        Edge.answers(3, h -> h.kind(0, 4, 2), h -> h.kind(0, 2, 1), h -> h.kind(0, 7, 2));
        Edge.of(21, "NONE: no such line, q.");
        Edge.refuses(-1, h -> h.kind(0, 8, 0), h -> h.kind(0, -1, 0), h -> h.kind(0, MAX, 0), h -> h.kind(0, MIN, 0));
        Edge.refuses(-1, h -> h.kind(2, 0, 0), h -> h.kind(-1, 0, 0), h -> h.kind(MAX, 0, 0), h -> h.kind(MIN, 0, 0));
        Edge.refuses(-1, h -> h.kind(0, 0, 4), h -> h.kind(0, 0, -1), h -> h.kind(0, 0, MAX), h -> h.kind(0, 0, MIN));
        Edge.refuses(-1, h -> h.kind(1, 7, 0));
    }

    // ---- kept and right

    /** Line 3 is 140 and so many places carried; what is copied brings it beside a half. */
    private static void keptAtHalves() {
        Edge.of("KEPT: the NUMBER with p places: the whole number nearest to it by 10 to the c; "
                + "at a half by f: 0 the greater, 1 the even one, 2 the lesser.");
        int unit = 10;
        for (int c = 1; c <= 6; c++) {
            for (int f = 0; f <= 2; f++) {
                FigureHouse house = Due.housed(";c:" + c + ";f:" + f);
                Edge.is(house.kept(0, 3, 0), 140);
                house.slip(0, 3, 9, unit / 2 - 1);
                Edge.is(house.kept(0, 3, 0), 140);
                house.slip(0, 3, 9, 1);
                Edge.is("140 and a half, c " + c + ", f " + f, house.kept(0, 3, 0), f == 0 ? 141 : 140);
                house.slip(0, 3, 9, 1);
                Edge.is(house.kept(0, 3, 0), 141);
                house.slip(0, 3, 9, unit - 1);
                Edge.is("141 and a half, c " + c + ", f " + f, house.kept(0, 3, 0), f == 2 ? 141 : 142);
                house.slip(0, 3, 9, -1);
                Edge.is(house.kept(0, 3, 0), 141);
            }
            unit *= 10;
        }
        FigureHouse whole = Due.housed(";f:1");
        whole.slip(0, 3, 9, 1);
        Edge.is(whole.kept(0, 3, 0), 141);
    }

    private static void keptBelowZero() {
        Edge.of("at a half by f: 0 the greater, 1 the even one, 2 the lesser.");
        long[][] wants = {{-1, -2, 0}, {-2, -2, 0}, {-2, -3, -1}};
        int unit = 10;
        for (int c = 1; c <= 3; c++) {
            for (int f = 0; f <= 2; f++) {
                FigureHouse house = Due.housed(";c:" + c + ";f:" + f);
                house.slip(0, 3, 9, -141 * unit - unit / 2);
                Edge.is("-1 and a half, f " + f, house.kept(0, 3, 0), wants[f][0]);
                house.slip(0, 3, 9, -1);
                Edge.is(house.kept(0, 3, 0), -2);
                house.slip(0, 3, 9, 2);
                Edge.is(house.kept(0, 3, 0), -1);
                house.slip(0, 3, 9, -1 - unit);
                Edge.is("-2 and a half, f " + f, house.kept(0, 3, 0), wants[f][1]);
                house.slip(0, 3, 9, 2 * unit);
                Edge.is("-a half, f " + f, house.kept(0, 3, 0), wants[f][2]);
            }
            unit *= 10;
        }
    }

    private static void kept() {
        Edge.of(22, "KEPT as known in q.");
        Edge.answers(210, h -> h.kept(0, 4, 0), h -> h.kept(0, 4, 2), h -> h.kept(0, 4, 3));
        Edge.answers(295, h -> h.kept(0, 5, 1), h -> h.kept(0, 5, 2));
        Edge.answers(294, h -> h.kept(0, 5, 0), h -> h.kept(0, 5, 3));
        Edge.answers(67, h -> h.kept(1, 6, 0));
        Edge.of(22, "NoSuchElementException: no such line, q.");
        Edge.throwsOne(h -> h.kept(0, 8, 0), h -> h.kept(0, -1, 0), h -> h.kept(0, MAX, 0), h -> h.kept(0, MIN, 0));
        Edge.throwsOne(h -> h.kept(2, 0, 0), h -> h.kept(-1, 0, 0), h -> h.kept(MAX, 0, 0), h -> h.kept(MIN, 0, 0));
        Edge.throwsOne(h -> h.kept(0, 0, 4), h -> h.kept(0, 0, -1), h -> h.kept(0, 0, MAX), h -> h.kept(0, 0, MIN));
        Edge.throwsOne(h -> h.kept(1, 7, 0));
    }

    /** 1,000 and 3,000 by 16, 32, .. 512: each has its half one place farther. */
    private static void rightAtHalves() {
        Edge.of("RIGHT: the same of the function itself.");
        long[][] want = {{63, 62, 62}, {313, 312, 312}, {1563, 1562, 1562}, {7813, 7812, 7812}, {39063, 39062, 39062}, {195313, 195312, 195312}};
        long[][] wantOfThree = {{188, 188, 187}, {938, 938, 937}, {4688, 4688, 4687}, {23438, 23438, 23437}, {117188, 117188, 117187}, {585938, 585938, 585937}};
        for (int p = 0; p <= 5; p++) {
            for (int f = 0; f <= 2; f++) {
                FigureHouse house = new FigureHouse();
                house.function(1, 1, 0);
                house.function(1, 3, 0);
                Due.plan(house, "a:1;o:1;m:3;p:" + p + ";f:" + f);
                house.page(0, 16 << p, 2, 0);
                house.page(1, 16 << p, 2, 0);
                Edge.is("1,000, p " + p + ", f " + f, house.right(0, 0), want[p][f]);
                Edge.is("3,000, p " + p + ", f " + f, house.right(1, 0), wantOfThree[p][f]);
                Edge.is(house.right(0, 1), house.nearest(0, (16 << p) + 1, p));
            }
        }
        // 9,000 by 2,001 is 4.4977: kept by way of 4.5 it is 5 with f 0, but of the function itself it is 4
        for (int f = 0; f <= 2; f++) {
            FigureHouse house = new FigureHouse();
            house.function(1, 9, 0);
            Due.plan(house, "a:1;o:1;m:3;c:1;f:" + f);
            house.page(0, 2001, 2, 0);
            Edge.is(house.kept(0, 0, 0), f == 0 ? 5 : 4);
            Edge.is(house.right(0, 0), 4);
        }
    }

    private static void right() {
        Edge.of(23, "RIGHT.");
        Edge.answers(14, h -> h.right(0, 0));
        Edge.answers(504, h -> h.right(0, 7));
        Edge.answers(91, h -> h.right(1, 2));
        Edge.of(23, "NoSuchElementException: no such line.");
        Edge.throwsOne(h -> h.right(0, 8), h -> h.right(0, -1), h -> h.right(0, MAX), h -> h.right(0, MIN));
        Edge.throwsOne(h -> h.right(2, 0), h -> h.right(-1, 0), h -> h.right(MAX, 0), h -> h.right(MIN, 0), h -> h.right(1, 7));
    }

    private static void wrong() {
        Edge.of(24, "How many lines of a PAGE have a KEPT, as known in q, that is not RIGHT.");
        Edge.answers(0, h -> h.wrong(0, 0));
        Edge.answers(2, h -> h.wrong(0, 1), h -> h.wrong(0, 2));
        Edge.answers(1, h -> h.wrong(0, 3), h -> h.wrong(1, 0));
        FigureHouse house = Due.housed("");
        house.slip(0, 3, 0, 1);
        Edge.is(house.wrong(0, 0), 5);
        house.slip(0, 7, 9, 1);
        house.slip(0, 6, 9, -1);
        Edge.is(house.wrong(0, 0), 4);
        // pivots may be wrong too: 9,000 by 2,001 and by 2,002 are kept as 5 by way of 4.5, but are 4
        FigureHouse pivots = new FigureHouse();
        pivots.function(1, 9, 0);
        Due.plan(pivots, "a:1;o:1;m:3;c:1");
        pivots.page(0, 2001, 2, 0);
        Edge.is(pivots.wrong(0, 0), 2);
        Edge.of(24, "NONE: no such ones.");
        Edge.refuses(-1, h -> h.wrong(2, 0), h -> h.wrong(-1, 0), h -> h.wrong(MAX, 0), h -> h.wrong(MIN, 0));
        Edge.refuses(-1, h -> h.wrong(0, 4), h -> h.wrong(0, -1), h -> h.wrong(0, MAX), h -> h.wrong(0, MIN));
    }

    private static void stray() {
        Edge.of("STRAY of a line: TRUE less NEAREST.");
        FigureHouse house = new FigureHouse();
        house.function(1, 1, 0);
        Due.plan(house, "a:1;o:1;c:1;m:4");
        house.page(0, 1, 8, 0);
        // 10000, 5000, 0, -5000 and 2000, 1667, 1334, 1001
        long[] want = {0, 0, -3333, -7500, 0, 0, -95, -249};
        for (int line = 0; line < 8; line++) {
            Edge.is(house.stray(0, line), want[line]);
        }
        house.slip(0, 2, 0, 5);
        Edge.is(house.stray(0, 2), -3333);
        Edge.of(25, "STRAY.");
        Edge.answers(-2, h -> h.stray(1, 2));
        Edge.answers(0, h -> h.stray(0, 7), h -> h.stray(1, 5), h -> h.stray(1, 6));
        Edge.of(25, "NoSuchElementException: no such line.");
        Edge.throwsOne(h -> h.stray(0, 8), h -> h.stray(0, -1), h -> h.stray(0, MAX), h -> h.stray(0, MIN));
        Edge.throwsOne(h -> h.stray(2, 0), h -> h.stray(-1, 0), h -> h.stray(MAX, 0), h -> h.stray(MIN, 0), h -> h.stray(1, 7));
    }
}
