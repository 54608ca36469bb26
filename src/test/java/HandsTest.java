/** Promises 37 to 40: rate, shut, doubled, left. */
final class HandsTest {
    public static void main(String[] args) {
        rate();
        shut();
        doubled();
        forty();
        Due.end("HandsTest");
    }

    private static void rate() {
        FigureHouse house = Due.housed(";h:n%3");
        // made lines: 3 and 6 by 0, 4 and 7 by 1, 5 by 2
        Due.is("none yet", house.rate(0), 0);
        house.slip(0, 3, 0, 1);
        house.slip(0, 3, 1, 1);
        Due.is("one of two", house.rate(0), 500);
        house.mend(0);
        house.mend(1);
        Due.is("mended or not", house.rate(0), 500);
        house.slip(0, 5, 9, 1);
        Due.is("all", house.rate(2), 1000);
        house.page(0, 7, 8, 0);
        house.page(0, 7, 8, 0);
        Due.is("one of six in three pages", house.rate(0), 166);
        house.slip(1, 3, 0, 1);
        house.slip(2, 3, 0, 1);
        house.slip(2, 6, 0, 1);
        Due.is("four of six", house.rate(0), 666);
        Due.is("a hand without lines", house.rate(7), 0);
        Due.is("no such hand", house.rate(8), -1);
        Due.is("no such hand", house.rate(-1), -1);
    }

    private static void shut() {
        FigureHouse house = Due.housed(";h:n%2;s:n=3?6;s:n=4?0-1;s:n=5?128");
        Due.is("bit 0 of 6 is 0", house.shut(0, 0, 3), 1);
        Due.is("h of it", house.shut(1, 0, 5), 0);
        Due.is("bit 1 of 6", house.shut(1, 0, 3), 0);
        Due.is("bit 2 of 6", house.shut(2, 0, 3), 0);
        Due.is("bit 3 of 6", house.shut(3, 0, 3), 1);
        Due.is("all bits of -1", house.shut(7, 0, 4), 0);
        Due.is("bit 7 of 128", house.shut(7, 0, 5), 0);
        Due.is("no bits, h of it", house.shut(0, 0, 6), 0);
        Due.is("no bits", house.shut(1, 0, 6), 1);
        Due.is("a pivot too", house.shut(5, 0, 0), 1);
        Due.is("no such hand", house.shut(8, 0, 3), -1);
        Due.is("no such hand", house.shut(-1, 0, 3), -1);
        Due.is("no such line", house.shut(0, 0, 8), -1);
        Due.is("no such page", house.shut(0, 1, 0), -1);
    }

    private static void doubled() {
        FigureHouse house = new FigureHouse();
        Due.is("alike", house.doubled(3, 3, 1, 1, 1), false);
        Due.is("no such hand", house.doubled(-1, 3, 1, 1, 1), false);
        Due.is("no such hand", house.doubled(3, 8, 1, 1, 1), false);
        int[][] bad = {{-1, 1, 1}, {1, -1, 1}, {1, 1, -1}, {1001, 1, 1}, {1, 1001, 1}, {1, 1, 1001}};
        for (int[] b : bad) {
            Due.is("out of bounds", house.doubled(0, 1, b[0], b[1], b[2]), false);
        }
        Due.is("nothing told", house.left(0, 1), -1);
        Due.is("told", house.doubled(0, 1, 5, 7, 4), true);
        Due.is("35 by 4, up", house.left(0, 1), 9);
        Due.is("the other way", house.left(1, 0), 9);
        Due.is("told anew", house.doubled(1, 0, 6, 6, 4), true);
        Due.is("36 by 4", house.left(0, 1), 9);
        house.doubled(1, 0, 1000, 1000, 1);
        Due.is("a million", house.left(1, 0), 1000000);
        house.doubled(0, 1, 3, 2, 0);
        Due.is("by 0", house.left(0, 1), -1);
        house.doubled(0, 1, 0, 2, 0);
        Due.is("0 by 0", house.left(0, 1), 0);
        house.doubled(0, 1, 3, 0, 9);
        Due.is("0 by 9", house.left(0, 1), 0);
        Due.is("not told of them", house.left(0, 2), -1);
        Due.is("alike", house.left(0, 0), -1);
        Due.is("no such hand", house.left(0, 8), -1);
        Due.is("no such hand", house.left(-1, 0), -1);
    }

    private static void forty() {
        FigureHouse house = new FigureHouse();
        Due.is("refused ones do not count", house.doubled(1, 1, 1, 1, 1), false);
        for (int i = 0; i < 40; i++) {
            Due.is("telling " + i, house.doubled(i % 3, 3 + i % 5, i, 1, 1), true);
        }
        Due.is("one more", house.doubled(0, 3, 9, 9, 9), false);
        Due.is("the last of 1 and 7", house.left(1, 7), 34);
        Due.is("the last of 0 and 7", house.left(7, 0), 39);
    }
}
