/** Promises 26 to 33: bound, drift, safe, check, fails, unseen, healed, spread. */
final class ChecksTest {
    public static void main(String[] args) {
        bound();
        driftAndSafe();
        safeOfMadeLines();
        checkOfSums();
        checkOfDifferences();
        checkByNearest();
        fails();
        unseen();
        unseenNeedsAllChecks();
        healed();
        spread();
        Due.end("ChecksTest");
    }

    private static void bound() {
        // by o: the sizes of times added up, halved and up, of places o + 1 on
        long[][] want = {{2, 3, 4}, {4, 9, 16}, {8, 25, 56}, {16, 65, 176}};
        for (int o = 1; o <= 4; o++) {
            FigureHouse house = new FigureHouse();
            house.function(0, 1, 0);
            Due.plan(house, "a:1;m:40;o:" + o);
            house.page(0, 1, 40, 0);
            Due.is("pivot of order " + o, house.bound(0, o), 1);
            for (int i = 0; i < 3; i++) {
                Due.is("order " + o + ", made " + i, house.bound(0, o + 1 + i), want[o - 1][i]);
            }
        }
        FigureHouse house = Due.housed("");
        Due.plan(house, "a:7;o:2;m:4");
        house.page(0, 7, 8, 1);
        Due.is("in the second block", house.bound(1, 7), 4);
        Due.is("a pivot there", house.bound(1, 6), 1);
        Due.is("no such line", house.bound(0, 8), -1);
        Due.is("no such line", house.bound(0, -1), -1);
        Due.is("no such page", house.bound(2, 0), -1);
    }

    private static void driftAndSafe() {
        // 1000 by 9, 10 and 11: 111.1, 100.0, 90.9 with one place carried; halves at 5
        FigureHouse house = new FigureHouse();
        house.function(1, 1, 0);
        Due.plan(house, "a:1;o:1;c:1;m:3");
        house.page(0, 9, 2, 0);
        Due.is("1111 is 4 from a half", house.safe(0, 0), 1);
        Due.is("drift is 0 at first", atFirst(), 1);
        Due.is("drift(-1)", house.drift(-1), false);
        Due.is("drift(1001)", house.drift(1001), false);
        Due.is("drift(3)", house.drift(3), true);
        Due.is("1 and 3 is not more than 4", house.safe(0, 0), 1);
        Due.is("1000 is 5 from a half", house.safe(0, 1), 1);
        Due.is("drift(4)", house.drift(4), true);
        Due.is("a half is nearer than 5", house.safe(0, 0), 0);
        Due.is("1000 is safe by 5", house.safe(0, 1), 1);
        Due.is("drift(1000)", house.drift(1000), true);
        Due.is("no more", house.safe(0, 1), 0);
        Due.is("no such line", house.safe(0, 2), -1);
        Due.is("no such page", house.safe(1, 0), -1);
        FigureHouse whole = Due.housed("");
        whole.drift(1000);
        Due.is("pivot without carried places", whole.safe(0, 2), 1);
        Due.is("made without carried places", whole.safe(0, 3), 0);
    }

    /** Without a drift told a pivot is safe beside a half, but not on it. */
    private static int atFirst() {
        FigureHouse house = new FigureHouse();
        house.function(1, 1, 0);
        Due.plan(house, "a:1;o:1;c:1;m:3");
        // 1000 by 28 is 35.71: 357 is 2 from the half; 1000 by 22 is 45.45: 455 is the half
        house.page(0, 28, 2, 0);
        house.page(0, 22, 2, 0);
        // 1000 by 155 is 6.45: 65 is the half; 1000 by 156 is 6.41: 64 is 1 from it
        house.page(0, 155, 2, 0);
        return house.safe(0, 0) * (1 - house.safe(1, 0)) * house.safe(2, 1);
    }

    private static void safeOfMadeLines() {
        FigureHouse house = Due.housed(";c:2");
        // the true numbers end in 00: halves are 50 off; bounds of order 2 are 4, 9, 16, 25, 36
        Due.is("bound 36", house.bound(0, 7), 36);
        house.drift(14);
        Due.is("50 is not nearer than 36 and 14", house.safe(0, 7), 1);
        house.drift(15);
        Due.is("50 is nearer than 36 and 15", house.safe(0, 7), 0);
        Due.is("25 and 15", house.safe(0, 6), 1);
        house.drift(0);
        house.slip(0, 7, 9, 50);
        Due.is("slips do not count", house.safe(0, 7), 1);
    }

    private static String checks(FigureHouse house, int page, int q) {
        StringBuilder text = new StringBuilder();
        for (int line = 0; line < house.paged(page, 1); line++) {
            text.append(house.check(page, line, q));
        }
        return text.toString();
    }

    private static void same(String what, String got, String want) {
        Due.is(what + ": " + got + " for " + want, got.equals(want), true);
    }

    private static void checkOfSums() {
        FigureHouse house = Due.housed(";k:1");
        same("all hold", checks(house, 0, 0), "11111111");
        house.slip(0, 4, 1, 5);
        same("a slip of column 1 is not seen", checks(house, 0, 0), "11111111");
        house.slip(0, 5, 0, 5);
        same("a slip of column 0 is, and behind it", checks(house, 0, 0), "11111000");
        house.mend(1);
        house.slip(0, 3, 9, 1);
        same("a copied slip is seen in its line", checks(house, 0, 0), "11101111");
        FigureHouse first = new FigureHouse();
        first.function(1, 1, 0);
        Due.plan(first, "a:1;o:1;m:4;k:1");
        first.page(0, 1, 8, 0);
        same("column 1 that stays is added too", checks(first, 0, 0), "11111111");
        first.slip(0, 7, 0, 1);
        same("in the second block", checks(first, 0, 0), "11111110");
    }

    private static void checkOfDifferences() {
        FigureHouse house = Due.housed(";k:2");
        same("all hold", checks(house, 0, 0), "11111111");
        house.slip(0, 4, 9, 1);
        same("copied: o + 2 lines", checks(house, 0, 0), "11110000");
        house.mend(0);
        house.slip(0, 4, 1, 1);
        same("column o - 1: two lines", checks(house, 0, 0), "11110011");
        house.mend(1);
        house.slip(0, 4, 0, 1);
        same("column 0: o + 1 lines", checks(house, 0, 0), "11110001");
        Due.is("no such line", house.check(0, 8, 0), -1);
        Due.is("no such day", house.check(0, 7, 1), -1);
        Due.is("no such day", house.check(0, 7, -1), -1);
        Due.is("no such page", house.check(1, 7, 0), -1);
        FigureHouse blocks = new FigureHouse();
        blocks.function(2, 7, 0);
        Due.plan(blocks, "a:7;o:2;m:4;k:2");
        blocks.page(0, 7, 8, 0);
        blocks.slip(0, 3, 0, 4);
        same("not over the block's end", checks(blocks, 0, 0), "11101111");
    }

    private static void checkByNearest() {
        FigureHouse house = Due.housed(";k:3;t:n=4?3;t:n=5?0-9;t:n=6?6");
        house.slip(0, 4, 9, 3);
        house.slip(0, 3, 9, -1);
        same("3 is not above 3", checks(house, 0, 0), "11101111");
        house.slip(0, 4, 9, 1);
        house.slip(0, 6, 9, -6);
        same("4 is; 6 below is allowed", checks(house, 0, 0), "11100111");
        house.slip(0, 6, 9, -1);
        house.slip(0, 5, 9, 1);
        same("t below 0 is as 0", checks(house, 0, 0), "11100001");
        FigureHouse strays = new FigureHouse();
        strays.function(1, 1, 0);
        Due.plan(strays, "a:1;o:2;m:6;k:3;t:249");
        strays.page(0, 1, 6, 0);
        same("strays count", checks(strays, 0, 0), "111100");
    }

    private static void fails() {
        FigureHouse house = Due.housed(";k:2");
        Due.is("none", house.fails(0, 0), 0);
        house.days(1);
        house.slip(0, 4, 9, 1);
        Due.is("four", house.fails(0, 1), 4);
        Due.is("none in 0", house.fails(0, 0), 0);
        Due.is("no such day", house.fails(0, 2), -1);
        Due.is("no such page", house.fails(-1, 0), -1);
        FigureHouse unchecked = Due.housed("");
        unchecked.slip(0, 4, 9, 1);
        Due.is("nothing is checked", unchecked.fails(0, 0), 0);
    }

    private static void unseen() {
        FigureHouse alone = Due.housed("");
        alone.slip(0, 4, 1, 5);
        Due.is("without checks", alone.unseen(0, 0), 1);
        FigureHouse house = Due.housed(";k:n=5?2;k:n=7?1");
        house.slip(0, 4, 1, 5);
        Due.is("line 5 sees column 1", house.unseen(0, 0), 0);
        house.slip(0, 6, 1, 5);
        Due.is("nobody sees it in line 6", house.unseen(0, 0), 1);
        house.slip(0, 6, 9, 5);
        Due.is("nor what is copied there", house.unseen(0, 0), 2);
        house.slip(0, 6, 0, 5);
        Due.is("column 0 is seen by line 7", house.unseen(0, 0), 2);
        house.slip(0, 4, 1, -5);
        Due.is("each alone: what is mended by another is seen", house.unseen(0, 0), 2);
        house.days(1);
        house.mend(1);
        Due.is("a mended one is none", house.unseen(0, 1), 1);
        Due.is("as known in 0 it is", house.unseen(0, 0), 2);
        Due.is("the figures stay", house.fails(0, 1), 1);
        Due.is("no such day", house.unseen(0, 2), -1);
        Due.is("no such page", house.unseen(1, 0), -1);
    }

    private static void unseenNeedsAllChecks() {
        FigureHouse house = new FigureHouse();
        house.function(2, 7, 0);
        house.function(1, 1, 0);
        Due.plan(house, "a:1;o:1;m:4;k:n=6?3");
        house.page(1, 1, 8, 0);
        // the pivots 200 and 167 go on with 134; 1000 by 7 is 143
        Due.is("line 6 strays by 9", house.stray(0, 6), -9);
        Due.is("and its check fails by itself", house.fails(0, 0), 1);
        house.slip(0, 3, 0, 1);
        Due.is("so a slip elsewhere is not unseen", house.unseen(0, 0), 0);
        house.slip(0, 6, 0, 9);
        Due.is("but one that brings it right is", house.unseen(0, 0), 1);
    }

    private static void healed() {
        FigureHouse house = Due.housed("");
        Due.is("no slips", house.healed(0, 0), 0);
        house.slip(0, 3, 9, 4);
        Due.is("behind a copied slip all are true", house.healed(0, 0), 4);
        house.slip(0, 3, 9, -4);
        Due.is("two slips that undo one another", house.healed(0, 0), 5);
        house.slip(0, 5, 1, 3);
        Due.is("off from 5 on", house.healed(0, 0), 2);
        house.days(1);
        house.slip(0, 6, 0, -6);
        Due.is("line 6 is true by another slip", house.healed(0, 1), 3);
        house.slip(0, 6, 1, -3);
        Due.is("off again by column 1", house.healed(0, 1), 2);
        Due.is("as known in 0", house.healed(0, 0), 2);
        Due.is("no such day", house.healed(0, 2), -1);
        Due.is("no such page", house.healed(1, 0), -1);
        FigureHouse blocks = new FigureHouse();
        blocks.function(2, 7, 0);
        Due.plan(blocks, "a:7;o:1;m:4");
        blocks.page(0, 7, 12, 0);
        blocks.slip(0, 6, 9, 4);
        Due.is("in their block alone", blocks.healed(0, 0), 1);
    }

    private static void spread() {
        FigureHouse house = Due.housed("");
        Due.is("column 0 of line 3", house.spread(0, 3, 0), 5);
        Due.is("column 1 of line 3", house.spread(0, 3, 1), 5);
        Due.is("copied", house.spread(0, 3, 9), 1);
        Due.is("the last line", house.spread(0, 7, 1), 1);
        Due.is("a pivot", house.spread(0, 2, 9), -1);
        Due.is("column o", house.spread(0, 3, 2), -1);
        Due.is("column -1", house.spread(0, 3, -1), -1);
        Due.is("no such line", house.spread(0, 8, 0), -1);
        Due.is("no such page", house.spread(1, 3, 0), -1);
        FigureHouse blocks = new FigureHouse();
        blocks.function(2, 7, 0);
        Due.plan(blocks, "a:7;o:1;m:5");
        blocks.page(0, 7, 9, 0);
        Due.is("to the block's end", blocks.spread(0, 2, 0), 3);
        Due.is("to the page's end", blocks.spread(0, 7, 0), 2);
    }
}
