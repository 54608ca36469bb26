/** Sentences about hands: promises 37 to 40. */
final class HandEdges {
    private static final int MIN = Integer.MIN_VALUE;
    private static final int MAX = Integer.MAX_VALUE;

    private HandEdges() {
    }

    static void run() {
        rateOfLines();
        rate();
        shutByBits();
        shut();
        doubledSheets();
        doubled();
        forty();
        left();
    }

    private static void rateOfLines() {
        Edge.of("HANDS 0 .. 7. RATE: of MADE lines of all PAGES by h those with SLIPS told (MENDED or not), "
                + "by thousands, cut (0 without lines).");
        FigureHouse house = Due.housed(";h:n%2*7");
        // by hand 7 lines 3, 5, 7 are made, by hand 0 lines 4, 6; line 1 by hand 7 is a pivot
        Edge.is(house.rate(7), 0);
        Edge.is(house.rate(0), 0);
        house.slip(0, 7, 9, 1);
        Edge.is(house.rate(7), 333);
        house.slip(0, 7, 0, 1);
        house.slip(0, 7, 9, -1);
        Edge.is(house.rate(7), 333);
        house.slip(0, 3, 0, 1);
        Edge.is(house.rate(7), 666);
        house.mend(0);
        house.mend(1);
        house.mend(2);
        house.mend(3);
        Edge.is(house.rate(7), 666);
        house.slip(0, 5, 0, 1);
        Edge.is(house.rate(7), 1000);
        Edge.is(house.rate(0), 0);
        house.page(0, 7, 8, 0);
        Edge.is(house.rate(7), 500);
        house.slip(1, 4, 0, 1);
        Edge.is(house.rate(0), 250);
        Edge.is(house.rate(7), 500);
        for (int hand = 1; hand <= 6; hand++) {
            Edge.is(house.rate(hand), 0);
        }
        FigureHouse pivots = PageEdges.paged("a:1;o:4;m:6;h:3", 1, 5);
        Edge.is(pivots.rate(3), 0);
    }

    private static void rate() {
        Edge.of(37, "RATE of a HAND.");
        // by 0 lines 3 and 6 of page 0 and 2 and 5 of page 1, by 1 lines 4 and 7, by 2 line 5
        Edge.answers(250, h -> h.rate(0));
        Edge.answers(1000, h -> h.rate(1));
        Edge.answers(0, h -> h.rate(2), h -> h.rate(7));
        Edge.of(37, "NONE: no such one.");
        Edge.refuses(-1, h -> h.rate(8), h -> h.rate(-1), h -> h.rate(MAX), h -> h.rate(MIN));
    }

    private static void shutByBits() {
        Edge.of("A HAND is SHUT from a line if its bit in s is 0 and it is not h of it.");
        int[] seers = {0, 1, 2, 128, 127, 254, 255, 256, -1, -2, -256, 1000000, -1000000};
        for (int s : seers) {
            String told = s == 1000000 ? "9999*9999" : s == -1000000 ? "0-9999*9999" : s < 0 ? "0-" + -s : "" + s;
            for (int maker : new int[] {0, 7}) {
                FigureHouse house = Due.housed(";h:" + maker + ";s:" + told);
                for (int hand = 0; hand < 8; hand++) {
                    boolean sees = Integer.toBinaryString(s | 1 << 31).charAt(31 - hand) == '1';
                    boolean shut = !sees && hand != maker;
                    Edge.is("s " + s + ", h " + maker + ", hand " + hand, house.shut(hand, 0, 4), Edge.yes(shut));
                    Edge.is(house.shut(hand, 0, 0), Edge.yes(shut));
                }
            }
        }
    }

    private static void shut() {
        Edge.of(38, "Whether a HAND is SHUT from a line (1, 0).");
        Edge.answers(0, h -> h.shut(0, 0, 0), h -> h.shut(2, 0, 4), h -> h.shut(1, 0, 4), h -> h.shut(0, 0, 7));
        Edge.answers(1, h -> h.shut(1, 0, 0), h -> h.shut(0, 0, 4), h -> h.shut(7, 0, 7), h -> h.shut(1, 1, 6));
        Edge.of(38, "NONE: no such ones.");
        Edge.refuses(-1, h -> h.shut(8, 0, 0), h -> h.shut(-1, 0, 0), h -> h.shut(MAX, 0, 0), h -> h.shut(MIN, 0, 0));
        Edge.refuses(-1, h -> h.shut(0, 2, 0), h -> h.shut(0, -1, 0), h -> h.shut(0, MAX, 0), h -> h.shut(0, MIN, 0));
        Edge.refuses(-1, h -> h.shut(0, 0, 8), h -> h.shut(0, 0, -1), h -> h.shut(0, 0, MAX), h -> h.shut(0, 0, MIN));
        Edge.refuses(-1, h -> h.shut(32, 0, 0), h -> h.shut(0, 1, 7));
    }

    private static void unseen(int only, int others, int both, long want) {
        FigureHouse house = new FigureHouse();
        Edge.is(house.doubled(2, 5, only, others, both), true);
        Edge.is(only + " and " + others + " by " + both, house.left(2, 5), want);
        Edge.is(house.left(5, 2), want);
    }

    private static void doubledSheets() {
        Edge.of("DOUBLED sheets, told of two HANDS: slips only the one found, only the other, both found (0 .. 1,000): "
                + "LEFT UNSEEN: the one's alone times the other's alone by both, up (NONE with both 0 and the product above 0; "
                + "told last of the two).");
        unseen(5, 7, 4, 9);
        unseen(6, 6, 4, 9);
        unseen(37, 1, 37, 1);
        unseen(37, 1, 36, 2);
        unseen(1, 1, 1000, 1);
        unseen(1, 1000, 1000, 1);
        unseen(1000, 1000, 1, 1000000);
        unseen(1000, 1000, 1000, 1000);
        unseen(1000, 1000, 0, -1);
        unseen(1, 1, 0, -1);
        unseen(0, 1000, 0, 0);
        unseen(1000, 0, 0, 0);
        unseen(0, 0, 0, 0);
        unseen(0, 7, 9, 0);
        unseen(7, 0, 1, 0);
        FigureHouse house = Working.house();
        house.doubled(1, 0, 3, 4, 5);
        Edge.is(house.left(0, 1), 3);
        house.doubled(0, 1, 1, 1, 0);
        Edge.is(house.left(0, 1), -1);
        Edge.is(house.left(1, 0), -1);
        house.doubled(0, 2, 9, 9, 9);
        Edge.is(house.left(0, 1), -1);
        Edge.is(house.left(2, 0), 9);
    }

    private static void doubled() {
        Edge.of(39, "DOUBLED sheets of two HANDS.");
        for (int one = 0; one < 8; one++) {
            for (int other = 0; other < 8; other++) {
                int a = one, b = other;
                Edge.answers(one == other ? 0 : 1, h -> Edge.yes(h.doubled(a, b, 1, 1, 1)));
            }
        }
        Edge.of(39, "False: no such ones, alike, out of bounds;");
        Edge.refuses(0, h -> Edge.yes(h.doubled(8, 0, 1, 1, 1)), h -> Edge.yes(h.doubled(-1, 0, 1, 1, 1)));
        Edge.refuses(0, h -> Edge.yes(h.doubled(0, 8, 1, 1, 1)), h -> Edge.yes(h.doubled(0, -1, 1, 1, 1)));
        Edge.refuses(0, h -> Edge.yes(h.doubled(MAX, 0, 1, 1, 1)), h -> Edge.yes(h.doubled(0, MIN, 1, 1, 1)));
        Edge.refuses(0, h -> Edge.yes(h.doubled(0, 0, 1, 1, 1)), h -> Edge.yes(h.doubled(7, 7, 1, 1, 1)));
        Edge.refuses(0, h -> Edge.yes(h.doubled(0, 1, -1, 1, 1)), h -> Edge.yes(h.doubled(0, 1, 1001, 1, 1)));
        Edge.refuses(0, h -> Edge.yes(h.doubled(0, 1, 1, -1, 1)), h -> Edge.yes(h.doubled(0, 1, 1, 1001, 1)));
        Edge.refuses(0, h -> Edge.yes(h.doubled(0, 1, 1, 1, -1)), h -> Edge.yes(h.doubled(0, 1, 1, 1, 1001)));
        Edge.refuses(0, h -> Edge.yes(h.doubled(0, 1, MAX, MAX, MAX)), h -> Edge.yes(h.doubled(0, 1, MIN, MIN, MIN)));
        Edge.answers(1, h -> Edge.yes(h.doubled(0, 1, 1000, 1000, 1000)), h -> Edge.yes(h.doubled(0, 1, 0, 0, 0)));
    }

    private static FigureHouse fortyTold() {
        FigureHouse house = Working.house();
        for (int i = 1; i < 40; i++) {
            house.doubled(0, 1, 5, 7, 4);
        }
        return house;
    }

    private static void forty() {
        Edge.of(39, "there were 40.");
        FigureHouse house = new FigureHouse();
        house.doubled(3, 3, 1, 1, 1);
        house.doubled(0, 1, 1, 1, 1001);
        for (int i = 0; i < 40; i++) {
            Edge.is(house.doubled(i % 4, 4 + i % 3, i, 1, 1), true);
        }
        Edge.is(house.left(3, 4), 39);
        Edge.is(house.doubled(3, 4, 1, 1, 1), false);
        Edge.is(house.doubled(1, 2, 1, 1, 1), false);
        Edge.is(house.left(3, 4), 39);
        Edge.is(house.left(1, 2), -1);
        Edge.refuses(HandEdges::fortyTold, 0, h -> Edge.yes(h.doubled(0, 1, 9, 9, 9)), h -> Edge.yes(h.doubled(2, 3, 9, 9, 9)));
    }

    private static void left() {
        Edge.of(40, "LEFT UNSEEN by two HANDS.");
        Edge.answers(9, h -> h.left(0, 1), h -> h.left(1, 0));
        Edge.of(40, "NONE: not told of them, as told.");
        Edge.refuses(-1, h -> h.left(0, 2), h -> h.left(2, 1), h -> h.left(0, 0), h -> h.left(1, 1));
        Edge.refuses(-1, h -> h.left(0, 8), h -> h.left(8, 0), h -> h.left(0, -1), h -> h.left(-1, 0));
        Edge.refuses(-1, h -> h.left(MAX, 0), h -> h.left(0, MAX), h -> h.left(MIN, 0), h -> h.left(0, MIN), h -> h.left(-1, 9));
        FigureHouse house = Working.house();
        house.doubled(0, 1, 1, 1, 0);
        Edge.is(house.left(0, 1), -1);
    }
}
