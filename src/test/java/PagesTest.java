/** Promises 14 to 18: page, paged, lined, trueOf, figure. */
final class PagesTest {
    public static void main(String[] args) {
        accepted();
        refused();
        twelve();
        paged();
        lined();
        trueOf();
        trueWithRounding();
        figures();
        shortBlocks();
        Due.end("PagesTest");
    }

    private static int page(String plan, int function, int first, int lines) {
        FigureHouse house = new FigureHouse();
        house.function(0, 1, 0);
        Due.plan(house, plan);
        return house.page(function, first, lines, 0);
    }

    private static void accepted() {
        Due.is("the least", page("a:1;o:1;m:3", 0, 1, 2), 0);
        Due.is("the most", page("a:50;o:4;p:5;c:1;m:40;f:2;h:7;k:3", 0, 9999 - 39 * 50, 40), 0);
        Due.is("p 0, c 6", page("a:1;o:1;m:3;c:6", 0, 1, 2), 0);
        Due.is("m is o + 2", page("a:1;o:4;m:6", 0, 1, 2), 0);
        Due.is("one line at 9999", page("a:1;o:1;m:3", 0, 9998, 2), 0);
        Due.is("s and t are free", page("a:1;o:1;m:3;s:0-9999;t:0-9999", 0, 1, 2), 0);
        Due.is("k wrong behind the lines", page("a:1;o:1;m:3;k:n>1?4", 0, 1, 2), 0);
        Due.is("head with letters 0", page("a:n+1;o:b+1;m:x+3;a:5", 0, 1, 2), 0);
    }

    private static void refused() {
        String good = "a:1;o:1;m:3";
        Due.is("no function", page(good, 1, 1, 2), -1);
        Due.is("no function", page(good, -1, 1, 2), -1);
        Due.is("first 0", page(good, 0, 0, 2), -1);
        Due.is("first 10000", page(good, 0, 10000, 2), -1);
        Due.is("first far", page(good, 0, Integer.MAX_VALUE, 2), -1);
        Due.is("one line", page(good, 0, 1, 1), -1);
        Due.is("41 lines", page(good, 0, 1, 41), -1);
        Due.is("x too high", page(good, 0, 9999, 2), -1);
        Due.is("x too high", page("a:50;o:4;m:40", 0, 9999 - 39 * 50 + 1, 40), -1);
        String[] bad = {"o:1;m:3", "a:51;o:1;m:3", "a:0-1;o:1;m:3", "a:1;m:3", "a:1;o:5;m:9", "a:1;o:1;m:2", "a:1;o:4;m:5",
            "a:1;o:1;m:41", "a:1;o:1", "a:1;o:1;m:3;p:6", "a:1;o:1;m:3;p:0-1", "a:1;o:1;m:3;c:7", "a:1;o:1;m:3;c:0-1",
            "a:1;o:1;m:3;p:3;c:4", "a:1;o:1;m:3;f:3", "a:1;o:1;m:3;f:0-1", "a:1;o:1;m:3;h:8", "a:1;o:1;m:3;h:0-1",
            "a:1;o:1;m:3;k:4", "a:1;o:1;m:3;k:0-n", "a:1;o:1;m:3;h:n=1?8", "a:1;o:1;m:3;k:x=2?9"};
        for (String plan : bad) {
            Due.is("refused: " + plan, page(plan, 0, 1, 2), -1);
        }
        FigureHouse house = new FigureHouse();
        house.function(0, 1, 0);
        Due.is("no plan", house.page(0, 1, 2, 0), -1);
        Due.plan(house, good);
        Due.is("no plan", house.page(0, 1, 2, -1), -1);
        Due.is("nothing came of it", house.count(3), 0);
    }

    private static void twelve() {
        FigureHouse house = Due.housed("");
        for (int i = 1; i < 12; i++) {
            Due.is("page " + i, house.page(0, i, 2, 0), i);
        }
        Due.is("a thirteenth", house.page(0, 1, 2, 0), -1);
        Due.is("count(3)", house.count(3), 12);
    }

    private static void paged() {
        FigureHouse house = new FigureHouse();
        house.function(0, 1, 0);
        house.function(1, 9, 9);
        Due.plan(house, "a:7;o:2;p:3;c:1;m:5;f:2");
        house.page(1, 4, 12, 0);
        long[] want = {1, 12, 7, 2, 3, 1, 5, 2, 3, 8};
        for (int what = 0; what < want.length; what++) {
            Due.is("paged " + what, house.paged(0, what), want[what]);
        }
        Due.plan(house, "a:n+2;o:b+1;p:x+3;c:n+b+x+2;m:n*b*x+9;f:x");
        int byLetters = house.page(0, 50, 30, 1);
        long[] wantOfLetters = {0, 30, 2, 1, 3, 2, 9, 0, 4, 8};
        for (int what = 0; what < want.length; what++) {
            Due.is("letters are 0, paged " + what, house.paged(byLetters, what), wantOfLetters[what]);
        }
        Due.is("paged -1", house.paged(0, -1), -1);
        Due.is("paged 10", house.paged(0, 10), -1);
        Due.is("no such page", house.paged(2, 0), -1);
        Due.is("no such page", house.paged(-1, 0), -1);
        house.page(1, 4, 14, 0);
        Due.is("three pivots in the last block", house.paged(2, 9), 9);
        house.page(1, 4, 15, 0);
        Due.is("and a made line", house.paged(3, 9), 9);
        Due.is("still three blocks", house.paged(3, 8), 3);
    }

    private static void lined() {
        FigureHouse house = new FigureHouse();
        house.function(0, 1, 0);
        Due.plan(house, "a:3;o:1;m:4;h:b+n%2;s:x-20;k:n=9?3;k:b;t:n-5");
        house.page(0, 10, 10, 0);
        long[][] want = {{10, 0, 0, 0, -10, 0, -5}, {25, 1, 1, 2, 5, 1, 0}, {34, 2, 0, 2, 14, 2, 3}, {37, 2, 1, 3, 17, 3, 4}};
        int[] lines = {0, 5, 8, 9};
        for (int i = 0; i < lines.length; i++) {
            for (int what = 0; what < 7; what++) {
                Due.is("lined " + lines[i] + " " + what, house.lined(0, lines[i], what), want[i][what]);
            }
        }
        Due.is("lined what -1", house.lined(0, 0, -1), -1);
        Due.is("lined what 7", house.lined(0, 0, 7), -1);
        Due.is("no such line", house.lined(0, 10, 0), -1);
        Due.is("no such line", house.lined(0, -1, 0), -1);
        Due.is("no such page", house.lined(1, 0, 0), -1);
    }

    private static void trueOf() {
        FigureHouse house = Due.housed("");
        long[] want = {14, 42, 84, 140, 210, 294, 392, 504};
        for (int line = 0; line < 8; line++) {
            Due.is("true " + line, house.trueOf(0, line), want[line]);
        }
        house.slip(0, 4, 0, 5);
        Due.is("slips leave the true number", house.trueOf(0, 5), 294);
        Due.isThrown("no such line", () -> house.trueOf(0, 8));
        Due.isThrown("no such line", () -> house.trueOf(0, -1));
        Due.isThrown("no such page", () -> house.trueOf(1, 0));
        Due.isThrown("no such page", () -> house.trueOf(-1, 0));
    }

    /** 1000 by 1 to 6: 1000, 500, 333.33, 250, 200, 166.67 in blocks of three and of order 1. */
    private static void trueWithRounding() {
        FigureHouse house = new FigureHouse();
        house.function(1, 1, 0);
        Due.plan(house, "a:1;o:1;p:0;c:1;m:3");
        house.page(0, 1, 6, 0);
        long[] want = {10000, 5000, 0, 2500, 2000, 1500};
        for (int line = 0; line < 6; line++) {
            Due.is("true to one place carried " + line, house.trueOf(0, line), want[line]);
        }
        Due.plan(house, "a:1;o:2;p:0;m:6");
        house.page(0, 1, 6, 1);
        long[] other = {1000, 500, 333, 499, 998, 1830};
        for (int line = 0; line < 6; line++) {
            Due.is("true of order 2 " + line, house.trueOf(1, line), other[line]);
        }
    }

    private static void figures() {
        FigureHouse house = Due.housed("");
        Due.is("last pivot, column 0", house.figure(0, 2, 0, 0), 84);
        Due.is("last pivot, column 1", house.figure(0, 2, 1, 0), 42);
        Due.is("last pivot, column 2", house.figure(0, 2, 2, 0), 14);
        Due.is("pivot, the number", house.figure(0, 0, 9, 0), 14);
        Due.is("made, column 1", house.figure(0, 7, 1, 0), 112);
        Due.is("made, column 2", house.figure(0, 7, 2, 0), 14);
        Due.isThrown("pivot, column 0", () -> house.figure(0, 1, 0, 0));
        Due.isThrown("column 3 of order 2", () -> house.figure(0, 4, 3, 0));
        Due.isThrown("column -1", () -> house.figure(0, 4, -1, 0));
        Due.isThrown("column 8", () -> house.figure(0, 4, 8, 0));
        Due.isThrown("column 10", () -> house.figure(0, 4, 10, 0));
        Due.isThrown("day 1", () -> house.figure(0, 4, 0, 1));
        Due.isThrown("day -1", () -> house.figure(0, 4, 0, -1));
        Due.isThrown("no such line", () -> house.figure(0, 8, 0, 0));
        Due.isThrown("no such page", () -> house.figure(1, 0, 0, 0));
        house.slip(0, 4, 1, 5);
        house.slip(0, 5, 0, -2);
        house.slip(0, 6, 9, 100);
        long[][] want = {{140, 56, 14, 140}, {215, 75, 14, 215}, {302, 89, 14, 302}, {405, 103, 14, 505}, {522, 117, 14, 522}};
        for (int line = 3; line < 8; line++) {
            for (int column = 0; column < 3; column++) {
                Due.is("figure " + line + " " + column, house.figure(0, line, column, 0), want[line - 3][column]);
            }
            Due.is("number " + line, house.figure(0, line, 9, 0), want[line - 3][3]);
        }
    }

    private static void shortBlocks() {
        FigureHouse house = new FigureHouse();
        house.function(2, 7, 0);
        Due.plan(house, "a:7;o:2;m:5");
        house.page(0, 7, 7, 0);
        Due.is("pivot of a short block", house.figure(0, 6, 9, 0), 392);
        Due.isThrown("two of three pivots have no columns", () -> house.figure(0, 6, 0, 0));
        house.page(0, 7, 8, 0);
        Due.is("the last of just three pivots has", house.figure(1, 7, 1, 0), 112);
        Due.is("and all of them", house.figure(1, 7, 2, 0), 14);
        Due.is("but it cannot slip", house.slip(1, 7, 0, 1), -1);
        house.slip(1, 3, 0, 9);
        Due.is("slips stay in their block", house.figure(1, 4, 9, 0), 219);
        Due.is("the next block begins anew", house.figure(1, 5, 9, 0), 294);
        Due.is("its columns too", house.figure(1, 7, 0, 0), 504);
    }
}
