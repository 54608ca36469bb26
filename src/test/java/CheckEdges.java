/** Sentences about how far off a line may be, and what is checked: promises 26 to 33. */
final class CheckEdges {
    private static final int MIN = Integer.MIN_VALUE;
    private static final int MAX = Integer.MAX_VALUE;

    private CheckEdges() {
    }

    static void run() {
        boundOfLines();
        bound();
        drift();
        safeByBoundAndDrift();
        safeBesideHalves();
        safeWithNoneCarried();
        safe();
        noCheck();
        checkOfSums();
        checkOfDifferences();
        checkByNearest();
        check();
        fails();
        unseenAlone();
        unseen();
        healedLines();
        healed();
        spreadOfColumns();
        spread();
    }

    // ---- bound, drift, safe

    /** The number at a place behind pivots of which one is 1 and the others are 0. */
    private static long times(int order, int pivot, int place) {
        long[] last = new long[order + 1];
        long[] numbers = new long[order + 1];
        numbers[pivot] = 1;
        for (int column = 0; column <= order; column++) {
            last[column] = numbers[order];
            for (int i = order; i > column; i--) {
                numbers[i] -= numbers[i - 1];
            }
        }
        for (int line = order + 1; line <= place; line++) {
            for (int column = order - 1; column >= 0; column--) {
                last[column] += last[column + 1];
            }
        }
        return last[0];
    }

    private static void boundOfLines() {
        Edge.of("BOUND: each TRUE number is a sum of whole times the PIVOTS of its BLOCK: "
                + "half the sum of these times, without their signs, up (1 of a PIVOT).");
        for (int o = 1; o <= 4; o++) {
            for (int m : new int[] {o + 2, 17, 40}) {
                FigureHouse house = PageEdges.paged("a:1;m:" + m + ";o:" + o, 1, 40);
                for (int line = 0; line < 40; line++) {
                    long sum = 0;
                    for (int pivot = 0; pivot <= o; pivot++) {
                        sum += Math.abs(times(o, pivot, line % m));
                    }
                    long want = line % m <= o ? 1 : sum / 2 + sum % 2;
                    Edge.is("o " + o + ", m " + m + ", line " + line, house.bound(0, line), want);
                }
            }
        }
        // 1, 3 and 3 make 7, of which the half is 3.5; 2 and 3 of order 1 make 5
        Edge.is(Due.housed("").bound(0, 3), 4);
        Edge.is(PageEdges.paged("a:1;o:1;m:40", 1, 5).bound(0, 3), 3);
    }

    private static void bound() {
        Edge.of(26, "BOUND.");
        Edge.answers(1, h -> h.bound(0, 0), h -> h.bound(0, 2), h -> h.bound(1, 6));
        Edge.answers(4, h -> h.bound(0, 3));
        Edge.answers(36, h -> h.bound(0, 7));
        Edge.answers(2, h -> h.bound(1, 2), h -> h.bound(1, 5));
        Edge.of(26, "NONE: no such line.");
        Edge.refuses(-1, h -> h.bound(0, 8), h -> h.bound(0, -1), h -> h.bound(0, MAX), h -> h.bound(0, MIN), h -> h.bound(1, 7));
        Edge.refuses(-1, h -> h.bound(2, 0), h -> h.bound(-1, 0), h -> h.bound(MAX, 0), h -> h.bound(MIN, 0));
    }

    private static void drift() {
        Edge.of(27, "DRIFT.");
        Edge.answers(1, h -> Edge.yes(h.drift(0)), h -> Edge.yes(h.drift(1000)), h -> Edge.yes(h.drift(1)));
        Edge.of(27, "False: out of bounds.");
        Edge.refuses(0, h -> Edge.yes(h.drift(-1)), h -> Edge.yes(h.drift(1001)), h -> Edge.yes(h.drift(MAX)), h -> Edge.yes(h.drift(MIN)));
        FigureHouse house = Due.housed(";c:3");
        house.drift(499);
        Edge.is(house.safe(0, 0), 1);
        house.drift(500);
        Edge.is(house.safe(0, 0), 0);
        house.drift(1001);
        house.drift(-1);
        Edge.is(house.safe(0, 0), 0);
        house.drift(499);
        Edge.is(house.safe(0, 0), 1);
    }

    /** The true numbers end in 0: halves are 5, 50 or 500 off; bounds are 1 of pivots and 4, 9, 16, 25, 36. */
    private static void safeByBoundAndDrift() {
        Edge.of("SAFE is a line, if no half of a figure of p places is nearer to TRUE than BOUND "
                + "and the DRIFT told (0 .. 1,000; 0 at first) together");
        int[] bounds = {1, 1, 1, 4, 9, 16, 25, 36};
        int half = 5;
        for (int c = 1; c <= 3; c++) {
            for (int line = 0; line < 8; line++) {
                FigureHouse house = Due.housed(";c:" + c);
                int far = half - bounds[line];
                Edge.is("c " + c + ", line " + line, house.safe(0, line), Edge.yes(far >= 0));
                house.drift(Math.max(0, far));
                Edge.is("c " + c + ", line " + line, house.safe(0, line), Edge.yes(far >= 0));
                house.drift(Math.max(0, far + 1));
                Edge.is("c " + c + ", line " + line, house.safe(0, line), 0);
            }
            half *= 10;
        }
        FigureHouse far = Due.housed(";c:4");
        far.drift(1000);
        Edge.is(far.safe(0, 7), 1);
        Edge.of("0 at first)");
        // 64 of 6.41 and 35 of 3.46 are 1 and 0 from the half, and the bound is 1
        FigureHouse untold = new FigureHouse();
        untold.function(1, 1, 0);
        Due.plan(untold, "a:1;o:1;c:1;m:3");
        untold.page(0, 156, 2, 0);
        untold.page(0, 289, 2, 0);
        Edge.is(untold.trueOf(0, 0), 64);
        Edge.is(untold.safe(0, 0), 1);
        Edge.is(untold.trueOf(1, 0), 35);
        Edge.is(untold.safe(1, 0), 0);
    }

    private static int safeOf(int a, int x, int drift) {
        FigureHouse house = new FigureHouse();
        house.function(1, a, 0);
        Due.plan(house, "a:1;o:1;c:1;m:3");
        house.page(0, x, 2, 0);
        house.drift(drift);
        return house.safe(0, 0);
    }

    private static void safeBesideHalves() {
        Edge.of("if no half of a figure of p places is nearer to TRUE than BOUND");
        // 35.7 and 33.3 are 2 from the half, 6.4 and 6.6 are 1, 34.5 is the half
        for (int x : new int[] {28, 30}) {
            Edge.is(safeOf(1, x, 1), 1);
            Edge.is(safeOf(1, x, 2), 0);
        }
        for (int x : new int[] {156, 152}) {
            Edge.is(safeOf(1, x, 0), 1);
            Edge.is(safeOf(1, x, 1), 0);
        }
        Edge.is(safeOf(1, 29, 0), 0);
        // below 0: 500.0 and 333.3 go on with 166.6 and -0.1, which is 4 from the half below it; its bound is 3
        FigureHouse house = new FigureHouse();
        house.function(1, 1, 0);
        Due.plan(house, "a:1;o:1;c:1;m:4");
        house.page(0, 2, 4, 0);
        Edge.is(house.trueOf(0, 3), -1);
        house.drift(1);
        Edge.is(house.safe(0, 3), 1);
        house.drift(2);
        Edge.is(house.safe(0, 3), 0);
        // slips leave what is true
        FigureHouse slipped = Due.housed(";c:1");
        slipped.slip(0, 3, 0, 5);
        Edge.is(slipped.safe(0, 3), 1);
    }

    private static void safeWithNoneCarried() {
        Edge.of("(always with c 0 if it is a PIVOT, never if MADE).");
        for (int drift : new int[] {0, 1, 1000}) {
            for (int p = 0; p <= 5; p++) {
                FigureHouse house = PageEdges.paged("a:1;o:2;m:5;p:" + p, 1, 9);
                house.drift(drift);
                for (int line = 0; line < 9; line++) {
                    Edge.is("p " + p + ", drift " + drift + ", line " + line, house.safe(0, line), Edge.yes(line % 5 <= 2));
                }
            }
        }
    }

    private static void safe() {
        Edge.of(28, "Whether a line is SAFE (1, 0).");
        Edge.answers(1, h -> h.safe(0, 0), h -> h.safe(0, 2), h -> h.safe(1, 0));
        Edge.answers(0, h -> h.safe(0, 3), h -> h.safe(0, 7), h -> h.safe(1, 2));
        Edge.of(28, "NONE: no such line.");
        Edge.refuses(-1, h -> h.safe(0, 8), h -> h.safe(0, -1), h -> h.safe(0, MAX), h -> h.safe(0, MIN), h -> h.safe(1, 7));
        Edge.refuses(-1, h -> h.safe(2, 0), h -> h.safe(-1, 0), h -> h.safe(MAX, 0), h -> h.safe(MIN, 0));
    }

    // ---- checks

    private static void holding(FigureHouse house, String want) {
        StringBuilder got = new StringBuilder();
        for (int line = 0; line < want.length(); line++) {
            got.append(house.check(0, line, house.count(0)));
        }
        Edge.is(got + " for " + want, Edge.yes(got.toString().equals(want)), 1);
    }

    private static void noCheck() {
        Edge.of("CHECKS of a line by k: 0 none (holds);");
        for (String k : new String[] {"", ";k:0"}) {
            FigureHouse house = Due.housed(k);
            house.slip(0, 3, 0, 1000000);
            house.slip(0, 5, 9, 1);
            holding(house, "11111111");
            Edge.is(house.fails(0, 0), 0);
        }
    }

    private static FigureHouse checked(int o, String k) {
        return PageEdges.paged("a:1;c:3;m:10;o:" + o + ";k:" + k, 1, 20);
    }

    /** The checks of 20 lines in blocks of ten, of which these are the ones that fail. */
    private static void failing(FigureHouse house, int from, int to) {
        StringBuilder want = new StringBuilder();
        for (int line = 0; line < 20; line++) {
            want.append(line >= from && line < to ? '0' : '1');
        }
        holding(house, want.toString());
    }

    private static void checkOfSums() {
        Edge.of("1: the NUMBER less that of the first line of its BLOCK is the sum of all column 1 of MADE lines up to it, "
                + "and of the differences of PIVOTS (holds on a PIVOT);");
        for (int o = 1; o <= 4; o++) {
            failing(checked(o, "1"), 0, 0);
            for (int at : new int[] {o + 1, 9, 11 + o, 14 + o}) {
                FigureHouse house = checked(o, "1");
                house.slip(0, at, 0, 1);
                failing(house, at, at < 10 ? 10 : 20);
                house.slip(0, at, 9, -1);
                failing(house, at + 1, at < 10 ? 10 : 20);
                FigureHouse copied = checked(o, "1");
                copied.slip(0, at, 9, -3);
                failing(copied, at, at + 1);
                for (int column = 1; column < o; column++) {
                    FigureHouse summed = checked(o, "1");
                    summed.slip(0, at, column, 1000);
                    failing(summed, 0, 0);
                }
            }
        }
    }

    private static void checkOfDifferences() {
        Edge.of("2: the difference of order o + 1 of NUMBERS, of this line and the o + 1 ahead, is 0 (holds if these are not all in its BLOCK);");
        for (int o = 1; o <= 4; o++) {
            failing(checked(o, "2"), 0, 0);
            for (int at = o + 1; at < 20; at++) {
                if (at % 10 <= o) {
                    continue;
                }
                int end = at < 10 ? 10 : 20;
                FigureHouse copied = checked(o, "2");
                copied.slip(0, at, 9, 1);
                failing(copied, at, Math.min(end, at + o + 2));
                for (int column = 0; column < o; column++) {
                    FigureHouse house = checked(o, "2");
                    house.slip(0, at, column, -1);
                    failing(house, at, Math.min(end, at + o - column + 1));
                }
            }
        }
    }

    private static void checkByNearest() {
        Edge.of("3: the NUMBER is off NEAREST by t at most (0 at least).");
        for (int t : new int[] {-9, -1, 0, 1, 2, 500}) {
            int most = Math.max(0, t);
            for (int sign = -1; sign <= 1; sign += 2) {
                FigureHouse house = Due.housed(";k:3;t:" + (t < 0 ? "0-" + -t : "" + t));
                holding(house, "11111111");
                if (most > 0) {
                    house.slip(0, 4, 9, sign * most);
                }
                holding(house, "11111111");
                house.slip(0, 4, 9, sign);
                holding(house, "11110111");
            }
        }
        // 1,000 by 1 to 6: strays of 0, 0, 0, 249, 798, 1,663 with pivots 1000, 500, 333
        for (int t : new int[] {248, 249, 797, 798, 1662, 1663}) {
            FigureHouse house = new FigureHouse();
            house.function(1, 1, 0);
            Due.plan(house, "a:1;o:2;m:6;k:3;t:" + t);
            house.page(0, 1, 6, 0);
            holding(house, "111" + (t < 249 ? 0 : 1) + (t < 798 ? 0 : 1) + (t < 1663 ? 0 : 1));
        }
        FigureHouse most = Due.housed(";k:3;t:9999*9999");
        most.slip(0, 7, 9, 1000000);
        holding(most, "11111111");
        most.slip(0, 7, 9, 1);
        holding(most, "11111110");
    }

    private static void check() {
        Edge.of(29, "Whether the check of a line holds as known in q (1, 0).");
        Edge.answers(1, h -> h.check(0, 5, 0), h -> h.check(0, 5, 3), h -> h.check(0, 7, 3), h -> h.check(0, 4, 2));
        Edge.answers(0, h -> h.check(0, 5, 1), h -> h.check(0, 5, 2), h -> h.check(0, 7, 2));
        Edge.of(29, "NONE: no such line, q.");
        Edge.refuses(-1, h -> h.check(0, 8, 0), h -> h.check(0, -1, 0), h -> h.check(0, MAX, 0), h -> h.check(0, MIN, 0));
        Edge.refuses(-1, h -> h.check(2, 0, 0), h -> h.check(-1, 0, 0), h -> h.check(MAX, 0, 0), h -> h.check(MIN, 0, 0));
        Edge.refuses(-1, h -> h.check(0, 0, 4), h -> h.check(0, 0, -1), h -> h.check(0, 0, MAX), h -> h.check(0, 0, MIN));
        Edge.refuses(-1, h -> h.check(1, 7, 0));
    }

    private static void fails() {
        Edge.of(30, "How many checks of a PAGE fail as known in q.");
        Edge.answers(0, h -> h.fails(0, 0), h -> h.fails(0, 3), h -> h.fails(1, 3));
        Edge.answers(2, h -> h.fails(0, 1), h -> h.fails(0, 2));
        FigureHouse house = PageEdges.paged("a:1;c:3;m:10;o:1;k:2", 1, 20);
        house.slip(0, 9, 0, 1);
        house.slip(0, 12, 9, 1);
        Edge.is(house.fails(0, 0), 1 + 3);
        Edge.of(30, "NONE: no such ones.");
        Edge.refuses(-1, h -> h.fails(2, 0), h -> h.fails(-1, 0), h -> h.fails(MAX, 0), h -> h.fails(MIN, 0));
        Edge.refuses(-1, h -> h.fails(0, 4), h -> h.fails(0, -1), h -> h.fails(0, MAX), h -> h.fails(0, MIN));
    }

    // ---- unseen, healed, spread

    private static void unseenAlone() {
        Edge.of("UNSEEN are SLIPS as known in q of a PAGE, with each of which alone all checks of the PAGE hold.");
        FigureHouse house = Due.housed(";k:n=5?2;k:n=7?3;t:4");
        house.slip(0, 7, 9, 4);
        house.slip(0, 7, 9, -4);
        house.slip(0, 7, 9, 5);
        house.slip(0, 6, 1, 2);
        house.slip(0, 6, 1, 3);
        house.slip(0, 5, 0, 1);
        house.slip(0, 5, 0, -1);
        // 4 and -4 and twice 2 are borne; 5 and twice 3 are not; line 5 sees what is off by 1
        Edge.is(house.unseen(0, 0), 3);
        house.days(1);
        house.slip(0, 3, 9, 1);
        house.slip(0, 7, 0, 3);
        house.mend(0);
        Edge.is(house.unseen(0, 0), 3);
        Edge.is(house.unseen(0, 1), 3);
        Edge.is(house.fails(0, 1), 2);
        // a check that fails by itself, in another block, sees each slip but one that brings it right
        FigureHouse strayed = new FigureHouse();
        strayed.function(1, 1, 0);
        Due.plan(strayed, "a:1;o:1;m:3;k:n=2?3");
        strayed.page(0, 9, 6, 0);
        Edge.is(strayed.stray(0, 2), -2);
        strayed.slip(0, 5, 0, 1);
        Edge.is(strayed.unseen(0, 0), 0);
        strayed.slip(0, 2, 9, 2);
        Edge.is(strayed.unseen(0, 0), 1);
        Edge.is(strayed.fails(0, 0), 0);
        // slips of another page are none of this
        strayed.page(0, 9, 6, 0);
        Edge.is(strayed.unseen(1, 0), 0);
    }

    private static void unseen() {
        Edge.of(31, "How many SLIPS are UNSEEN.");
        Edge.answers(0, h -> h.unseen(0, 0), h -> h.unseen(1, 3));
        Edge.answers(1, h -> h.unseen(0, 1), h -> h.unseen(0, 2));
        Edge.answers(2, h -> h.unseen(0, 3));
        Edge.of(31, "NONE likewise.");
        Edge.refuses(-1, h -> h.unseen(2, 0), h -> h.unseen(-1, 0), h -> h.unseen(MAX, 0), h -> h.unseen(MIN, 0));
        Edge.refuses(-1, h -> h.unseen(0, 4), h -> h.unseen(0, -1), h -> h.unseen(0, MAX), h -> h.unseen(0, MIN));
    }

    private static void healedLines() {
        Edge.of("HEALED are MADE lines ahead of which, in their BLOCK or there, is a SLIP as known in q, and whose NUMBER is TRUE all the same.");
        FigureHouse house = Due.housed("");
        Edge.is(house.healed(0, 0), 0);
        house.slip(0, 4, 0, 5);
        Edge.is(house.healed(0, 0), 0);
        house.slip(0, 4, 9, -5);
        // line 4 has both slips and is true; 5 to 7 are off
        Edge.is(house.healed(0, 0), 1);
        house.slip(0, 6, 0, -5);
        Edge.is(house.healed(0, 0), 3);
        house.days(1);
        house.mend(2);
        Edge.is(house.healed(0, 0), 3);
        Edge.is(house.healed(0, 1), 1);
        house.mend(0);
        house.mend(1);
        Edge.is(house.healed(0, 1), 0);
        FigureHouse copied = Due.housed("");
        copied.slip(0, 5, 9, 4);
        Edge.is(copied.healed(0, 0), 2);
        copied.slip(0, 3, 9, 4);
        Edge.is(copied.healed(0, 0), 3);
        for (int o = 1; o <= 4; o++) {
            // a slip in the last line of a block heals nothing of the next one
            FigureHouse blocks = PageEdges.paged("a:1;m:10;o:" + o, 1, 20);
            blocks.slip(0, 9, 9, 1);
            Edge.is(blocks.healed(0, 0), 0);
            blocks.slip(0, 11 + o, 9, 1);
            Edge.is(blocks.healed(0, 0), 8 - o);
            blocks.slip(0, 11 + o, 9, -1);
            Edge.is(blocks.healed(0, 0), 9 - o);
        }
    }

    private static void healed() {
        Edge.of(32, "How many lines are HEALED.");
        Edge.answers(0, h -> h.healed(0, 0), h -> h.healed(0, 3), h -> h.healed(1, 3));
        FigureHouse house = Working.house();
        house.slip(0, 6, 9, 12);
        Edge.is(house.healed(0, 3), 1);
        Edge.of(32, "NONE likewise.");
        Edge.refuses(-1, h -> h.healed(2, 0), h -> h.healed(-1, 0), h -> h.healed(MAX, 0), h -> h.healed(MIN, 0));
        Edge.refuses(-1, h -> h.healed(0, 4), h -> h.healed(0, -1), h -> h.healed(0, MAX), h -> h.healed(0, MIN));
    }

    private static void spreadOfColumns() {
        Edge.of("SPREAD of a line and column (9 too): in how many lines of the PAGE a SLIP of 1 there alone would alter the NUMBER.");
        for (int o = 1; o <= 4; o++) {
            FigureHouse house = PageEdges.paged("a:1;m:10;o:" + o, 1, 18);
            for (int line = 0; line < 18; line++) {
                int end = line < 10 ? 10 : 18;
                for (int column = -1; column <= 10; column++) {
                    boolean may = line % 10 > o && (column == 9 || column >= 0 && column < o);
                    long want = !may ? -1 : column == 9 ? 1 : end - line;
                    Edge.is("o " + o + ", line " + line + ", column " + column, house.spread(0, line, column), want);
                }
            }
        }
        // slips told and mended do not alter it, and it tells none
        FigureHouse slipped = Due.housed("");
        slipped.slip(0, 4, 0, -1);
        Edge.is(slipped.spread(0, 4, 0), 4);
        Edge.is(slipped.count(4), 1);
    }

    private static void spread() {
        Edge.of(33, "SPREAD.");
        Edge.answers(5, h -> h.spread(0, 3, 0), h -> h.spread(0, 3, 1));
        Edge.answers(1, h -> h.spread(0, 3, 9), h -> h.spread(0, 7, 0), h -> h.spread(1, 2, 0));
        Edge.of(33, "NONE: no such line that is MADE, column.");
        Edge.refuses(-1, h -> h.spread(0, 2, 0), h -> h.spread(0, 0, 9), h -> h.spread(0, 8, 0), h -> h.spread(0, -1, 0));
        Edge.refuses(-1, h -> h.spread(0, MAX, 0), h -> h.spread(0, MIN, 0), h -> h.spread(2, 3, 0), h -> h.spread(-1, 3, 0));
        Edge.refuses(-1, h -> h.spread(MAX, 3, 0), h -> h.spread(MIN, 3, 0), h -> h.spread(0, 3, 2), h -> h.spread(0, 3, -1));
        Edge.refuses(-1, h -> h.spread(0, 3, 8), h -> h.spread(0, 3, 10), h -> h.spread(0, 3, MAX), h -> h.spread(0, 3, MIN));
    }
}
