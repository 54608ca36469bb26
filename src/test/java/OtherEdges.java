/** Sentences about others' tables: promises 50 to 52. */
final class OtherEdges {
    private static final int MIN = Integer.MIN_VALUE;
    private static final int MAX = Integer.MAX_VALUE;

    private OtherEdges() {
    }

    static void run() {
        eightTables();
        other();
        untold();
        tell();
        sameTakenMissed();
        compare();
    }

    private static FigureHouse eightOf() {
        FigureHouse house = Working.house();
        while (house.count(10) < 8) {
            house.other(0);
        }
        return house;
    }

    private static void eightTables() {
        Edge.of("OTHERS (8 tables at most) of a PAGE: numbers line by line");
        FigureHouse house = Due.housed("");
        house.set(0);
        for (int i = 0; i < 8; i++) {
            Edge.is(house.other(0), i);
            Edge.is(house.tell(i, i, 1), true);
            Edge.is(house.tell(i, 7, 504), true);
        }
        Edge.is(house.other(0), -1);
        for (int i = 0; i < 8; i++) {
            Edge.is(house.compare(i, 0), i == 7 ? 1 : 2);
            Edge.is(house.compare(i, 1), 1);
        }
        Edge.of(50, "there are eight.");
        Edge.refuses(OtherEdges::eightOf, -1, h -> h.other(0), h -> h.other(1));
    }

    private static void other() {
        Edge.of(50, "A table of OTHERS of a PAGE: its number.");
        Edge.answers(1, h -> h.other(0), h -> h.other(1));
        Edge.of(50, "NONE: no such PAGE,");
        Edge.refuses(-1, h -> h.other(2), h -> h.other(-1), h -> h.other(MAX), h -> h.other(MIN));
        Edge.is(new FigureHouse().other(0), -1);
    }

    private static void untold() {
        Edge.of("(NONE told: that line is untold again; untold lines are left out).");
        FigureHouse house = Due.housed("");
        house.slip(0, 3, 9, -141);
        house.slip(0, 4, 9, -210);
        house.set(0);
        house.other(0);
        for (int what = 0; what <= 4; what++) {
            Edge.is(house.compare(0, what), 0);
        }
        // line 3 is printed as -1: NONE is no number, even so; line 4 is printed as 0, which is one
        Edge.is(house.printed(0, 3), -1);
        Edge.is(house.tell(0, 3, -1), true);
        Edge.is(house.compare(0, 0), 0);
        Edge.is(house.compare(0, 1), 0);
        Edge.is(house.tell(0, 4, 0), true);
        Edge.is(house.compare(0, 0), 1);
        Edge.is(house.compare(0, 1), 1);
        house.tell(0, 3, 5);
        Edge.is(house.compare(0, 0), 2);
        Edge.is(house.tell(0, 3, -1), true);
        Edge.is(house.tell(0, 3, -1), true);
        Edge.is(house.compare(0, 0), 1);
        house.tell(0, 3, -2);
        house.tell(0, 5, Long.MIN_VALUE);
        house.tell(0, 6, Long.MAX_VALUE);
        house.tell(0, 7, 0xFFFFFFFFL);
        Edge.is(house.compare(0, 0), 5);
    }

    private static void tell() {
        Edge.of(51, "A line of it is told.");
        Edge.answers(1, h -> Edge.yes(h.tell(0, 0, 5)), h -> Edge.yes(h.tell(0, 7, -1)), h -> Edge.yes(h.tell(0, 3, 0)));
        FigureHouse house = Working.house();
        house.other(1);
        Edge.is(house.tell(1, 6, 67), true);
        Edge.is(house.tell(1, 7, 67), false);
        house.tell(0, 3, 140);
        house.tell(0, 3, 141);
        Edge.is(house.compare(0, 0), 2);
        Edge.is(house.compare(0, 4), 1);
        Edge.of(51, "False: no such ones.");
        Edge.refuses(0, h -> Edge.yes(h.tell(1, 0, 5)), h -> Edge.yes(h.tell(-1, 0, 5)), h -> Edge.yes(h.tell(MAX, 0, 5)));
        Edge.refuses(0, h -> Edge.yes(h.tell(MIN, 0, 5)), h -> Edge.yes(h.tell(0, 8, 5)), h -> Edge.yes(h.tell(0, -1, 5)));
        Edge.refuses(0, h -> Edge.yes(h.tell(0, MAX, 5)), h -> Edge.yes(h.tell(0, MIN, 5)), h -> Edge.yes(h.tell(0, 8, -1)));
    }

    private static void sameTakenMissed() {
        Edge.of("Of one: SAME: told lines that are as PRINTED; TAKEN: those of these that are not RIGHT; "
                + "MISSED: told lines where PRINTED is not RIGHT and they are.");
        // 14 as printed and right; 43 neither; printed 147: told 147, then 140, then 141
        long[] told = {147, 140, 141};
        long[][] want = {{3, 2, 1, 0, 1}, {3, 1, 0, 1, 2}, {3, 1, 0, 0, 1}};
        for (int i = 0; i < told.length; i++) {
            FigureHouse house = Due.housed("");
            house.set(0);
            house.press(0, 3, 0, 7);
            house.press(0, 4, 0, 7);
            house.other(0);
            house.tell(0, 0, 14);
            house.tell(0, 1, 43);
            house.tell(0, 3, told[i]);
            for (int what = 0; what <= 4; what++) {
                Edge.is("told " + told[i] + ", what " + what, house.compare(0, what), want[i][what]);
            }
        }
        FigureHouse all = Due.housed("");
        all.set(0);
        all.other(0);
        for (int line = 0; line < 8; line++) {
            all.tell(0, line, all.right(0, line));
        }
        long[] wantOfAll = {8, 8, 0, 0, 8};
        for (int what = 0; what <= 4; what++) {
            Edge.is(all.compare(0, what), wantOfAll[what]);
        }
    }

    private static void compare() {
        Edge.of(52, "Of OTHERS: 0 told lines, 1 SAME, 2 TAKEN, 3 MISSED, 4 told lines that are RIGHT.");
        long[] want = {2, 2, 1, 0, 1};
        for (int what = 0; what <= 4; what++) {
            int w = what;
            Edge.answers(want[what], h -> h.compare(0, w));
        }
        Edge.of(52, "NONE: no such ones, not set.");
        Edge.refuses(-1, h -> h.compare(1, 0), h -> h.compare(-1, 0), h -> h.compare(MAX, 0), h -> h.compare(MIN, 0));
        Edge.refuses(-1, h -> h.compare(0, 5), h -> h.compare(0, -1), h -> h.compare(0, MAX), h -> h.compare(0, MIN));
        FigureHouse house = Working.house();
        house.other(1);
        house.tell(1, 0, 111);
        for (int what = 1; what <= 3; what++) {
            Edge.is(house.compare(1, what), -1);
        }
        house.set(1);
        Edge.is(house.compare(1, 1), 1);
    }
}
