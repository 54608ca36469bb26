/** Sentences about a new object, days, and what is known on them: promises 1 to 4. */
final class DayEdges {
    private static final int MIN = Integer.MIN_VALUE;
    private static final int MAX = Integer.MAX_VALUE;

    private DayEdges() {
    }

    static void run() {
        aNewObject();
        fiveHundredAndTwelveCalls();
        days();
        as();
        known();
        knownInDays();
        toldUpToADay();
        askingChangesNothing();
    }

    private static void aNewObject() {
        Edge.of(1, "DAY 0, nothing told.");
        FigureHouse house = new FigureHouse();
        for (int what = 0; what <= 12; what++) {
            Edge.is(house.count(what), 0);
        }
        Edge.is(house.known(), 0);
        Edge.is(house.rate(0), 0);
        Edge.is(house.left(0, 1), -1);
        Edge.is(house.paged(0, 0), -1);
        Edge.is(house.apply(0, 0), 2);
        Edge.of("The constants: `NONE = -1`: None; refused.");
        Edge.is(FigureHouse.NONE, -1);
    }

    private static void fiveHundredAndTwelveCalls() {
        Edge.of("What it is", "An object is used for at most 512 calls after it has been made;");
        FigureHouse house = new FigureHouse();
        for (int i = 0; i < 511; i++) {
            house.days(1);
        }
        Edge.is(house.days(1), 512);
        FigureHouse refused = new FigureHouse();
        for (int i = 0; i < 511; i++) {
            refused.page(0, 1, 2, 0);
        }
        Edge.is(refused.function(0, 1, 0), 0);
    }

    private static void days() {
        Edge.of("DAY: NOW is 0 at first, 1,000 at most;");
        FigureHouse house = new FigureHouse();
        Edge.is(house.days(0), 0);
        Edge.is(house.days(999), 999);
        Edge.is(house.days(1), 1000);
        Edge.is(house.days(1), -1);
        Edge.is(house.count(0), 1000);
        Edge.of(2, "n DAYS (0 .. 1,000): NOW.");
        Edge.is(new FigureHouse().days(1000), 1000);
        Edge.answers(3, h -> h.days(0));
        Edge.answers(4, h -> h.days(1));
        Edge.answers(1000, h -> h.days(997));
        Edge.of(2, "NONE: n, NOW would be above 1,000.");
        Edge.refuses(-1, h -> h.days(-1), h -> h.days(1001), h -> h.days(998), h -> h.days(1000));
        Edge.refuses(-1, h -> h.days(MIN), h -> h.days(MAX), h -> h.days(MAX - 2));
        Edge.is(new FigureHouse().days(1001), -1);
    }

    private static void as() {
        Edge.of("AS is a DAY told up to NOW, or NOW itself as long as none is.");
        FigureHouse house = new FigureHouse();
        house.days(3);
        Edge.is(house.known(), 3);
        house.days(1);
        Edge.is(house.known(), 4);
        house.as(4);
        house.days(1);
        Edge.is(house.known(), 4);
        house.as(0);
        house.days(1);
        Edge.is(house.known(), 0);
        Edge.of(3, "AS is that DAY (NONE: NOW again).");
        Edge.answers(1, h -> Edge.yes(h.as(0)), h -> Edge.yes(h.as(3)), h -> Edge.yes(h.as(-1)));
        int[] days = {0, 1, 3, -1};
        int[] known = {0, 1, 3, 4};
        for (int i = 0; i < days.length; i++) {
            FigureHouse other = Working.house();
            other.as(days[i]);
            other.days(1);
            Edge.is(other.known(), known[i]);
        }
        Edge.of(3, "False: no such DAY (0 .. NOW).");
        Edge.refuses(0, h -> Edge.yes(h.as(4)), h -> Edge.yes(h.as(-2)), h -> Edge.yes(h.as(1001)));
        Edge.refuses(0, h -> Edge.yes(h.as(MIN)), h -> Edge.yes(h.as(MAX)));
        Edge.is(new FigureHouse().as(1), false);
        Edge.is(new FigureHouse().as(0), true);
    }

    private static void known() {
        Edge.of(4, "AS.");
        Edge.answers(2, FigureHouse::known);
        Edge.is(new FigureHouse().known(), 0);
    }

    /** The calls that are asked as known in a day take day 0 and NOW, and no day ahead or behind. */
    private static void knownInDays() {
        Edge.of("as known in q (0 .. NOW):");
        for (int q : new int[] {-1, 4, 1001, MIN, MAX}) {
            Edge.refuses(-1, h -> h.kind(0, 4, q), h -> h.wrong(0, q), h -> h.check(0, 4, q), h -> h.fails(0, q));
            Edge.refuses(-1, h -> h.unseen(0, q), h -> h.healed(0, q), h -> h.least(0, 0, q), h -> h.ways(0, 0, q));
            Edge.refuses(-2000000000L, h -> h.first(0, 0, q, 0, 0));
            Edge.throwsOne(h -> h.figure(0, 4, 9, q), h -> h.kept(0, 4, q));
        }
        for (int q : new int[] {0, 3}) {
            Edge.answers(1, h -> h.kind(0, 3, q), h -> h.check(0, 4, q));
            Edge.answers(0, h -> h.fails(0, q), h -> h.healed(0, q));
            Edge.answers(q == 0 ? 0 : 1, h -> h.wrong(0, q));
            Edge.answers(q == 0 ? 0 : 2, h -> h.least(0, 0, q), h -> h.unseen(0, q));
            Edge.answers(q == 0 ? 1 : 9, h -> h.ways(0, 0, q));
            Edge.answers(q == 0 ? -2000000000L : 6, h -> h.first(0, 0, q, 0, 0));
            Edge.answers(140, h -> h.kept(0, 3, q));
            Edge.answers(1400, h -> h.figure(0, 3, 9, q));
        }
    }

    private static void toldUpToADay() {
        Edge.of("what is told is told NOW;");
        FigureHouse house = Due.housed("");
        house.days(2);
        house.slip(0, 4, 1, 5);
        Edge.is(house.figure(0, 5, 9, 1), 294);
        Edge.is(house.figure(0, 5, 9, 2), 304);
        house.as(0);
        house.slip(0, 4, 1, 5);
        Edge.is(house.figure(0, 5, 9, 0), 294);
        Edge.is(house.figure(0, 5, 9, 2), 314);
        Edge.of("what was told on DAYS up to q.");
        house.days(2);
        house.mend(0);
        long[] want = {294, 294, 314, 314, 304};
        for (int q = 0; q < want.length; q++) {
            Edge.is(house.figure(0, 5, 9, q), want[q]);
        }
    }

    private static void askingChangesNothing() {
        Edge.of("Not promised", "Nothing is promised beyond the answers and state changes described above,");
        Edge.refuses(2, FigureHouse::known, h -> h.wrong(0, 1), h -> h.fails(0, 2), h -> h.unseen(0, 3), h -> h.least(0, 0, 3));
        Edge.refuses(9, h -> h.ways(0, 0, 3), h -> h.left(0, 1), h -> h.lined(1, 0, 0));
        Edge.refuses(6, h -> h.first(0, 0, 3, 0, 0));
        Edge.refuses(2105, h -> h.figure(0, 4, 9, 2), h -> h.figure(0, 4, 0, 1));
        Edge.refuses(210, h -> h.kept(0, 4, 2), h -> h.right(0, 4), h -> h.printed(0, 4), h -> h.copied(0, 4));
        Edge.refuses(0, h -> h.healed(0, 2), h -> h.stray(0, 4), h -> h.safe(0, 4), h -> h.check(0, 5, 2), h -> h.shut(1, 0, 4));
        Edge.refuses(3, h -> h.errors(0), h -> h.proof(0, 1), h -> h.kind(0, 5, 2), h -> h.spread(0, 5, 0), h -> h.count(4));
        Edge.refuses(1000, h -> h.rate(1));
        Edge.refuses(31, h -> h.best(0, 7, 8, 7, 0, 0, 0));
        Edge.refuses(1, h -> h.compare(0, 2), h -> h.paged(0, 5), h -> h.bound(0, 0), h -> h.worth(0, 'c', 0, 0, 0), h -> h.whole(0, 7, 0));
        Edge.refuses(-1, FigureHouse::fault);
        Edge.refuses(14, h -> h.exact(0, 7, 0), h -> h.nearest(0, 7, 0));
        Edge.refuses(140, h -> h.trueOf(0, 0));
    }
}
