/** Sentences about sheets: promises 53 to 56. */
final class SheetEdges {
    private static final int MIN = Integer.MIN_VALUE;
    private static final int MAX = Integer.MAX_VALUE;

    private SheetEdges() {
    }

    static void run() {
        eightSheets();
        sheet();
        putByKind();
        put();
        lost();
        lose();
        takenAsKnown();
        take();
        takeNothing();
        takeFromNowhere();
        takeTooFar();
        orderOfRefusals();
    }

    private static FigureHouse eightOf() {
        FigureHouse house = Working.house();
        while (house.count(11) < 8) {
            house.sheet(1);
        }
        return house;
    }

    private static void eightSheets() {
        Edge.of("SHEETS (8 at most) of a kind (0 bytes, 1 shorts, 2 longs), 40 places;");
        FigureHouse house = Due.housed("");
        for (int i = 0; i < 8; i++) {
            Edge.is(house.sheet(i % 3), i);
        }
        Edge.is(house.sheet(0), -1);
        for (int i = 0; i < 8; i++) {
            Edge.is(house.put(i, 0, 200), true);
            Edge.is(house.put(i, 39, 100), true);
            Edge.is(house.put(i, 40, 100), false);
            Edge.is(house.put(i, -1, 100), false);
            house.take(0, 3, i, 0);
            Edge.is(house.figure(0, 3, 9, 0), i % 3 == 0 ? -56 : 200);
            house.take(0, 3, i, 39);
            Edge.is(house.figure(0, 3, 9, 0), 100);
            house.take(0, 3, i, 20);
            Edge.is(house.figure(0, 3, 9, 0), 0);
        }
        Edge.of(53, "there are eight.");
        Edge.refuses(SheetEdges::eightOf, -1, h -> h.sheet(0), h -> h.sheet(2));
        FigureHouse lost = eightOf();
        lost.lose(7);
        Edge.is(lost.sheet(0), -1);
    }

    private static void sheet() {
        Edge.of(53, "A SHEET: its number.");
        Edge.answers(3, h -> h.sheet(0), h -> h.sheet(1), h -> h.sheet(2));
        Edge.of(53, "NONE: no such kind,");
        Edge.refuses(-1, h -> h.sheet(-1), h -> h.sheet(3), h -> h.sheet(MAX), h -> h.sheet(MIN));
    }

    /** What line 3, of which the number is brought to 0 first, takes from a place of a sheet of this kind. */
    private static long taken(int kind, int v) {
        FigureHouse house = Due.housed("");
        house.slip(0, 3, 9, -140);
        house.sheet(kind);
        Edge.is(house.put(0, 39, v), true);
        int slip = house.take(0, 3, 0, 39);
        return slip < 0 ? slip : house.figure(0, 3, 9, 0);
    }

    private static void putByKind() {
        Edge.of("a number v (-1,000,000,000 .. 1,000,000,000) is put as (byte) v, (short) v, v;");
        int[] bytes = {1, 127, 128, 129, 255, 257, -1, -128, -129, -255, -257, 1000, 999999999};
        long[] asBytes = {1, 127, -128, -127, -1, 1, -1, -128, 127, 1, -1, -24, -1};
        for (int i = 0; i < bytes.length; i++) {
            Edge.is("byte " + bytes[i], taken(0, bytes[i]), asBytes[i]);
        }
        int[] shorts = {128, 32767, 32768, 65535, 65537, -32768, -32769, -65535, 1000000, 1000000000, -1000000000};
        long[] asShorts = {128, 32767, -32768, -1, 1, -32768, 32767, 1, 16960, -13824, 13824};
        for (int i = 0; i < shorts.length; i++) {
            Edge.is("short " + shorts[i], taken(1, shorts[i]), asShorts[i]);
        }
        for (int v : new int[] {1, -1, 32768, -32769, 65536, 1000000, -1000000}) {
            Edge.is("long " + v, taken(2, v), v);
        }
        // 256 and 65,536 leave 0, which line 3 has already; longs of a thousand millions are too far off
        Edge.is(taken(0, 256), -3);
        Edge.is(taken(0, 1000000000), -3);
        Edge.is(taken(1, 65536), -3);
        Edge.is(taken(2, 1000000000), -1);
        Edge.is(taken(2, -1000000000), -1);
    }

    private static void put() {
        Edge.of(54, "v is put into a SHEET's place.");
        Edge.answers(1, h -> Edge.yes(h.put(0, 0, 0)), h -> Edge.yes(h.put(0, 39, 1000000000)), h -> Edge.yes(h.put(1, 39, -1000000000)));
        FigureHouse house = Working.house();
        house.put(1, 3, 7);
        house.put(1, 3, 3000);
        Edge.is(house.take(0, 3, 1, 3), 3);
        Edge.is(house.figure(0, 3, 9, 3), 3000);
        Edge.of(54, "False: no such ones, out of bounds, LOST.");
        Edge.refuses(0, h -> Edge.yes(h.put(3, 0, 1)), h -> Edge.yes(h.put(-1, 0, 1)), h -> Edge.yes(h.put(MAX, 0, 1)), h -> Edge.yes(h.put(MIN, 0, 1)));
        Edge.refuses(0, h -> Edge.yes(h.put(0, 40, 1)), h -> Edge.yes(h.put(0, -1, 1)), h -> Edge.yes(h.put(0, MAX, 1)), h -> Edge.yes(h.put(0, MIN, 1)));
        Edge.refuses(0, h -> Edge.yes(h.put(1, 3, 1000000001)), h -> Edge.yes(h.put(1, 3, -1000000001)));
        Edge.refuses(0, h -> Edge.yes(h.put(0, 2, MAX)), h -> Edge.yes(h.put(0, 2, MIN)));
        Edge.refuses(0, h -> Edge.yes(h.put(2, 0, 1)));
    }

    private static void lost() {
        Edge.of("a SHEET may be LOST.");
        FigureHouse house = Working.house();
        Edge.is(house.lose(1), true);
        Edge.is(house.take(0, 4, 1, 3), -2);
        Edge.is(house.put(1, 3, 1), false);
        Edge.is(house.count(11), 3);
        Edge.is(house.take(0, 4, 0, 2), 3);
        Edge.is(house.sheet(0), 3);
    }

    private static void lose() {
        Edge.of(55, "A SHEET is LOST.");
        Edge.answers(1, h -> Edge.yes(h.lose(0)), h -> Edge.yes(h.lose(1)));
        Edge.of(55, "False: no such one, it is.");
        Edge.refuses(0, h -> Edge.yes(h.lose(2)), h -> Edge.yes(h.lose(3)), h -> Edge.yes(h.lose(-1)), h -> Edge.yes(h.lose(MAX)), h -> Edge.yes(h.lose(MIN)));
        Edge.is(new FigureHouse().lose(0), false);
    }

    private static void takenAsKnown() {
        Edge.of("A line that is MADE may be COPIED from a SHEET's place: a SLIP COPIED of what the place has less the NUMBER (as known in AS).");
        // sheet 1 has 2105 in place 3, which line 4 is as known in 1 and 2; it is 2100 in 0 and 3
        long[] want = {3, -3, -3, 3};
        for (int day = 0; day <= 3; day++) {
            FigureHouse house = Working.house();
            house.as(day);
            Edge.is("as " + day, house.take(0, 4, 1, 3), want[day]);
            Edge.is(house.figure(0, 4, 9, 3), want[day] == 3 ? 2105 : 2100);
            Edge.is(house.figure(0, 4, 0, 3), 2100);
            Edge.is(house.figure(0, 5, 9, 3), 2940);
            // it is told now, not in AS
            Edge.is(house.figure(0, 4, 9, 2), 2105);
        }
        FigureHouse house = Working.house();
        house.as(0);
        house.take(0, 6, 1, 3);
        // 2105 less 3920, which is the number as known in 0; it is 3908 now
        Edge.is(house.figure(0, 6, 9, 3), 3908 + 2105 - 3920);
    }

    private static void take() {
        Edge.of(56, "A line is COPIED from a SHEET's place: the SLIP,");
        FigureHouse house = Working.house();
        Edge.is(house.take(0, 7, 0, 2), 3);
        Edge.is(house.take(0, 7, 1, 3), 4);
        Edge.is(house.take(1, 2, 0, 39), 5);
        Edge.is(house.count(4), 6);
        Edge.is(house.mend(5), true);
        Edge.is(house.mend(6), false);
    }

    private static void takeNothing() {
        Edge.of(56, "or -3: it is the NUMBER already (nothing is told).");
        Edge.refuses(-3, h -> h.take(0, 4, 1, 3));
        FigureHouse house = Working.house();
        house.as(-1);
        house.take(0, 4, 1, 3);
        Edge.is(house.take(0, 4, 1, 3), -3);
        Edge.is(house.count(4), 4);
    }

    private static void takeFromNowhere() {
        Edge.of(56, "-2: LOST, or no such place.");
        Edge.refuses(-2, h -> h.take(0, 4, 2, 0), h -> h.take(0, 4, 2, 40), h -> h.take(0, 4, 1, 40), h -> h.take(0, 4, 1, -1));
        Edge.refuses(-2, h -> h.take(0, 4, 1, MAX), h -> h.take(0, 4, 1, MIN));
        Edge.answers(3, h -> h.take(0, 4, 1, 39), h -> h.take(0, 4, 1, 0));
    }

    private static void takeTooFar() {
        Edge.of(56, "off by more than 1,000,000, 60 SLIPS (these behind -2 and -3);");
        int[] off = {-1000001, -1000000, 1000000, 1000001, -1000000000, 1000000000};
        for (int i = 0; i < off.length; i++) {
            boolean far = Math.abs(off[i]) > 1000000;
            FigureHouse house = Working.house();
            house.put(1, 0, Math.max(-1000000000, Math.min(1000000000, 1400 + off[i])));
            Edge.is("off by " + off[i], house.take(0, 3, 1, 0), far ? -1 : 3);
            Edge.is(house.count(4), far ? 3 : 4);
        }
        // off by more than 2 to the 32, which is not cut to the 1,214 that are left of it
        for (int sign = -1; sign <= 1; sign += 2) {
            FigureHouse wide = PageEdges.paged("a:1;o:4;m:40", 1, 40);
            wide.slip(0, 5, 3, sign * 552763);
            Edge.is(wide.figure(0, 39, 9, 0) - wide.trueOf(0, 39), sign * ((1L << 32) + 1214));
            wide.sheet(2);
            Edge.is(wide.put(0, 0, (int) wide.trueOf(0, 39)), true);
            Edge.is(wide.take(0, 39, 0, 0), -1);
            Edge.is(wide.count(4), 1);
        }
        FigureHouse house = Working.house();
        while (house.count(4) < 59) {
            house.slip(0, 7, 9, 1);
        }
        Edge.is(house.take(0, 3, 1, 3), 59);
        Edge.is(house.take(0, 3, 0, 2), -1);
        Edge.is(house.count(4), 60);
        Edge.is(house.take(0, 3, 2, 0), -2);
        Edge.is(house.take(0, 3, 0, 40), -2);
        house.as(3);
        Edge.is(house.take(0, 3, 1, 3), -3);
    }

    private static void orderOfRefusals() {
        Edge.of(56, "NONE: no such line that is MADE, SHEET (these ahead of all);");
        Edge.refuses(-1, h -> h.take(0, 2, 1, 3), h -> h.take(0, 0, 1, 3), h -> h.take(0, 8, 1, 3), h -> h.take(0, -1, 1, 3));
        Edge.refuses(-1, h -> h.take(0, MAX, 1, 3), h -> h.take(0, MIN, 1, 3), h -> h.take(2, 4, 1, 3), h -> h.take(-1, 4, 1, 3));
        Edge.refuses(-1, h -> h.take(MAX, 4, 1, 3), h -> h.take(MIN, 4, 1, 3), h -> h.take(1, 7, 1, 3), h -> h.take(1, 3, 1, 3));
        Edge.refuses(-1, h -> h.take(0, 4, 3, 3), h -> h.take(0, 4, -1, 3), h -> h.take(0, 4, MAX, 3), h -> h.take(0, 4, MIN, 3));
        // ahead of a lost sheet and of a place that is none
        Edge.refuses(-1, h -> h.take(0, 2, 2, 0), h -> h.take(0, 2, 1, 40), h -> h.take(0, 8, 2, 40), h -> h.take(0, 4, 3, 40));
        // and of a number that a pivot has already
        FigureHouse house = Working.house();
        house.put(1, 3, 840);
        Edge.is(house.take(0, 2, 1, 3), -1);
    }
}
