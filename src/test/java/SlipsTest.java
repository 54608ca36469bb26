/** Promises 19 to 25: slip, mend, kind, kept, right, wrong, stray. */
final class SlipsTest {
    public static void main(String[] args) {
        slips();
        sixty();
        mending();
        knownByDays();
        kinds();
        keptAtHalves();
        keptBelowZero();
        rightAtHalves();
        rightOfTheFunctionItself();
        wrong();
        stray();
        Due.end("SlipsTest");
    }

    private static void slips() {
        FigureHouse house = Due.housed("");
        Due.is("a pivot", house.slip(0, 2, 0, 1), -1);
        Due.is("column o", house.slip(0, 3, 2, 1), -1);
        Due.is("column -1", house.slip(0, 3, -1, 1), -1);
        Due.is("column 8", house.slip(0, 3, 8, 1), -1);
        Due.is("column 10", house.slip(0, 3, 10, 1), -1);
        Due.is("amount 0", house.slip(0, 3, 0, 0), -1);
        Due.is("amount too high", house.slip(0, 3, 0, 1000001), -1);
        Due.is("amount too low", house.slip(0, 3, 0, -1000001), -1);
        Due.is("no such line", house.slip(0, 8, 0, 1), -1);
        Due.is("no such line", house.slip(0, -1, 0, 1), -1);
        Due.is("no such page", house.slip(1, 3, 0, 1), -1);
        Due.is("nothing told", house.count(4), 0);
        Due.is("a slip", house.slip(0, 3, 0, 1000000), 0);
        Due.is("one more", house.slip(0, 3, 0, -1000000), 1);
        Due.is("both are added", house.figure(0, 3, 0, 0), 140);
        Due.is("copied", house.slip(0, 7, 9, 3), 2);
        Due.is("copied once more", house.slip(0, 7, 9, 4), 3);
        Due.is("both are added", house.figure(0, 7, 9, 0), 511);
        Due.is("nothing leans on it", house.figure(0, 7, 0, 0), 504);
        Due.is("count(4)", house.count(4), 4);
    }

    private static void sixty() {
        FigureHouse house = Due.housed("");
        for (int i = 0; i < 60; i++) {
            Due.is("slip " + i, house.slip(0, 3 + i % 5, i % 2, 1), i);
        }
        Due.is("a slip more", house.slip(0, 3, 0, 1), -1);
        house.mend(0);
        Due.is("mending makes no room", house.slip(0, 3, 0, 1), -1);
    }

    private static void mending() {
        FigureHouse house = Due.housed("");
        Due.is("none to mend", house.mend(0), false);
        house.slip(0, 4, 1, 5);
        house.slip(0, 6, 0, 1);
        Due.is("mend(-1)", house.mend(-1), false);
        Due.is("mend(2)", house.mend(2), false);
        Due.is("mend(0)", house.mend(0), true);
        Due.is("mend(0) again", house.mend(0), false);
        Due.is("what leans on it is right", house.figure(0, 5, 9, 0), 294);
        Due.is("the other slip stays", house.figure(0, 7, 9, 0), 505);
        Due.is("count(5)", house.count(5), 1);
        Due.is("count(4)", house.count(4), 2);
    }

    private static void knownByDays() {
        FigureHouse house = Due.housed("");
        house.days(2);
        house.slip(0, 4, 1, 5);
        house.days(3);
        house.mend(0);
        house.days(1);
        long[] want = {294, 294, 304, 304, 304, 294, 294};
        for (int q = 0; q < 7; q++) {
            Due.is("as known in " + q, house.figure(0, 5, 9, q), want[q]);
        }
    }

    private static void kinds() {
        FigureHouse house = Due.housed(";k:n=5?2");
        Due.is("pivot", house.kind(0, 2, 0), 0);
        Due.is("made", house.kind(0, 3, 0), 1);
        house.days(1);
        house.slip(0, 4, 1, 5);
        long[] doubted = {0, 0, 3, 3, 3, 3, 1, 1};
        for (int line = 0; line < 8; line++) {
            Due.is("line " + line + " in 1", house.kind(0, line, 1), doubted[line]);
            Due.is("line " + line + " in 0", house.kind(0, line, 0), line < 3 ? 0 : 1);
        }
        house.slip(0, 5, 9, 9);
        house.days(1);
        house.mend(1);
        Due.is("mended comes ahead of doubted", house.kind(0, 5, 2), 2);
        Due.is("not yet mended", house.kind(0, 5, 1), 3);
        Due.is("doubted still", house.kind(0, 4, 2), 3);
        house.mend(0);
        Due.is("the first slip mended", house.kind(0, 4, 2), 2);
        Due.is("no such day", house.kind(0, 4, 3), -1);
        Due.is("no such day", house.kind(0, 4, -1), -1);
        Due.is("no such line", house.kind(0, 8, 0), -1);
        Due.is("no such page", house.kind(1, 0, 0), -1);
        FigureHouse other = new FigureHouse();
        other.function(2, 7, 0);
        Due.plan(other, "a:7;o:1;m:4;k:b=1?3;t:0");
        other.page(0, 7, 8, 0);
        other.slip(0, 6, 0, 50);
        Due.is("not behind the block's end", other.kind(0, 3, 0), 1);
        Due.is("a pivot in doubt", other.kind(0, 4, 0), 3);
    }

    /** Numbers of one place carried, which a slip brings to halves: 84.0 and 5 is 84.5. */
    private static void keptAtHalves() {
        long[][] want = {{141, 84, 211}, {140, 84, 210}, {140, 83, 210}};
        for (int f = 0; f < 3; f++) {
            FigureHouse house = Due.housed(";c:1;f:" + f);
            house.slip(0, 3, 9, 5);
            house.slip(0, 4, 9, 4);
            house.slip(0, 5, 9, 6);
            Due.is("140.5 with f " + f, house.kept(0, 3, 0), want[f][0]);
            Due.is("210.4 with f " + f, house.kept(0, 4, 0), 210);
            Due.is("294.6 with f " + f, house.kept(0, 5, 0), 295);
            house.slip(0, 6, 9, 15);
            Due.is("393.5 with f " + f, house.kept(0, 6, 0), f == 2 ? 393 : 394);
        }
    }

    private static void keptBelowZero() {
        long[] want = {-1, -2, -2};
        for (int f = 0; f < 3; f++) {
            FigureHouse house = Due.housed(";c:1;f:" + f);
            house.slip(0, 3, 9, -1415);
            Due.is("-1.5 with f " + f, house.kept(0, 3, 0), want[f]);
            house.slip(0, 4, 9, -2125);
            Due.is("-2.5 with f " + f, house.kept(0, 4, 0), f == 2 ? -3 : -2);
            house.slip(0, 5, 9, -2955);
            Due.is("-1.5 again with f " + f, house.kept(0, 5, 0), want[f]);
            house.slip(0, 6, 9, -3924);
            Due.is("-0.4 with f " + f, house.kept(0, 6, 0), 0);
        }
        FigureHouse house = Due.housed(";c:1");
        Due.isThrown("no such line", () -> house.kept(0, 8, 0));
        Due.isThrown("no such day", () -> house.kept(0, 3, 1));
        Due.isThrown("no such day", () -> house.kept(0, 3, -1));
        Due.isThrown("no such page", () -> house.kept(1, 3, 0));
    }

    /** 1000 by 16 is 62.5, 1000 by 80 is 12.5: 1000 by (x + b). */
    private static void rightAtHalves() {
        long[][] want = {{63, 13}, {62, 12}, {62, 12}};
        for (int f = 0; f < 3; f++) {
            FigureHouse house = new FigureHouse();
            house.function(1, 1, 0);
            house.function(1, 3, 0);
            Due.plan(house, "a:32;o:1;m:3;f:" + f);
            house.page(0, 16, 3, 0);
            Due.is("62.5 with f " + f, house.right(0, 0), want[f][0]);
            Due.is("12.5 with f " + f, house.right(0, 2), want[f][1]);
            house.page(1, 16, 3, 0);
            Due.is("187.5 with f " + f, house.right(1, 0), f == 2 ? 187 : 188);
            Due.isThrown("no such line", () -> house.right(0, 3));
            Due.isThrown("no such line", () -> house.right(0, -1));
            Due.isThrown("no such page", () -> house.right(2, 0));
        }
    }

    /** 1000 by 19 is 52.63: with one place carried it would be 52.6; root of 2 has no half at all. */
    private static void rightOfTheFunctionItself() {
        FigureHouse house = new FigureHouse();
        house.function(1, 9, 0);
        Due.plan(house, "a:1;o:1;m:3;c:1;f:2");
        // 9000 by 2001 is 4.4977..., so 4.5 with one place: a half for the pivot, none for the function
        house.page(0, 2001, 2, 0);
        Due.is("nearest to one place", house.trueOf(0, 0), 45);
        Due.is("kept goes to the lesser", house.kept(0, 0, 0), 4);
        Due.is("right is of the function", house.right(0, 0), 4);
        Due.plan(house, "a:1;o:1;m:3;c:1;f:0");
        house.page(0, 2001, 2, 1);
        Due.is("kept goes to the greater", house.kept(1, 0, 0), 5);
        Due.is("right does not", house.right(1, 0), 4);
        Due.is("so both lines are wrong", house.wrong(1, 0), 2);
    }

    private static void wrong() {
        FigureHouse house = Due.housed("");
        Due.is("none wrong", house.wrong(0, 0), 0);
        house.days(1);
        house.slip(0, 5, 0, 1);
        Due.is("three wrong", house.wrong(0, 1), 3);
        Due.is("none as known in 0", house.wrong(0, 0), 0);
        Due.is("no such day", house.wrong(0, 2), -1);
        Due.is("no such day", house.wrong(0, -1), -1);
        Due.is("no such page", house.wrong(1, 0), -1);
        FigureHouse carried = Due.housed(";c:1");
        carried.slip(0, 5, 0, 4);
        Due.is("0.4 off is not wrong", carried.wrong(0, 0), 0);
        carried.slip(0, 5, 0, 1);
        Due.is("0.5 off is", carried.wrong(0, 0), 3);
    }

    private static void stray() {
        FigureHouse house = new FigureHouse();
        house.function(1, 1, 0);
        Due.plan(house, "a:1;o:2;m:6");
        house.page(0, 1, 6, 0);
        long[] want = {0, 0, 0, 249, 798, 1663};
        for (int line = 0; line < 6; line++) {
            Due.is("stray " + line, house.stray(0, line), want[line]);
        }
        house.slip(0, 3, 0, 7);
        Due.is("slips leave it", house.stray(0, 3), 249);
        Due.plan(house, "a:1;o:1;m:6");
        house.page(0, 1, 6, 1);
        Due.is("below", house.stray(1, 5), -1000 - 500 - 167);
        Due.isThrown("no such line", () -> house.stray(0, 6));
        Due.isThrown("no such page", () -> house.stray(2, 0));
    }
}
