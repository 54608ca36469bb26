import java.util.ArrayList;
import java.util.List;

/** A house in the midst of its work, with some of everything, and all that can be seen of a house. */
final class Working {
    private Working() {
    }

    /**
     * Page 0: lines of 14, 42, 84, 140, 210, 294, 392, 504 with one place carried, lines 3 to 7 made, of order 2.
     * Slip 0 was told on day 1 and mended on day 3, slip 1 told on day 1, slip 2 on day 3, which is now.
     * Page 1: 111, 100, 91, 83, 77, 71, 67 in blocks of three, of order 1, lines 2 and 5 made; it is not set.
     */
    static FigureHouse house() {
        FigureHouse house = new FigureHouse();
        house.function(2, 7, 0);
        house.function(1, 1, 0);
        Due.plan(house, "a:7;o:2;m:8;c:1;f:1;h:n%3;s:n;k:n=5?2;k:n=7?3;t:4");
        Due.plan(house, "a:1;o:1;m:3");
        house.page(0, 7, 8, 0);
        house.page(1, 9, 7, 1);
        house.days(1);
        house.slip(0, 4, 1, 5);
        house.slip(0, 6, 9, -12);
        house.days(2);
        house.mend(0);
        house.slip(0, 7, 0, 3);
        house.as(2);
        house.drift(2);
        house.hours(7);
        house.doubled(0, 1, 5, 7, 4);
        house.set(0);
        house.press(0, 3, 0, 7);
        house.press(0, 5, 1, 2);
        house.copy(0);
        house.erratum(0, 3, 147, 140);
        house.erratum(1, 2, 83, 84);
        house.other(0);
        house.tell(0, 3, 147);
        house.tell(0, 4, 210);
        house.sheet(0);
        house.sheet(2);
        house.sheet(1);
        house.put(0, 2, 200);
        house.put(1, 3, 2105);
        house.lose(2);
        Due.feed(house, "a:1");
        return house;
    }

    /** What a house answers; fewer calls than an object serves, so that the house may be in the midst of its work. */
    static long[] seenOf(FigureHouse house) {
        List<Long> seen = new ArrayList<>();
        told(house, seen);
        pageByDays(house, seen);
        pageByLines(house, seen);
        tellMore(house, seen);
        return seen.stream().mapToLong(Long::longValue).toArray();
    }

    private static void add(List<Long> seen, Due.Call asks) {
        seen.add(Due.answerOf(asks));
    }

    private static void told(FigureHouse house, List<Long> seen) {
        for (int what = 0; what <= 12; what++) {
            int w = what;
            add(seen, () -> house.count(w));
        }
        add(seen, house::known);
        add(seen, house::fault);
        for (int hand = 0; hand < 8; hand++) {
            int h = hand;
            add(seen, () -> house.rate(h));
            add(seen, () -> house.left(h, (h + 1) % 8));
        }
        add(seen, () -> house.left(1, 0));
        for (char label : "aopcmfhskt".toCharArray()) {
            add(seen, () -> house.worth(0, label, 5, 0, 0));
            add(seen, () -> house.paged(0, "aopcmfhskt".indexOf(label)));
            add(seen, () -> house.paged(1, "aopcmfhskt".indexOf(label)));
        }
        for (int what = 0; what < 4; what++) {
            int w = what;
            add(seen, () -> house.best(0, 7, 8, 7, 0, 0, w));
        }
    }

    private static void pageByDays(FigureHouse house, List<Long> seen) {
        int now = house.count(0);
        for (int q : new int[] {0, 1, 2, now}) {
            add(seen, () -> house.fails(0, q));
            add(seen, () -> house.wrong(0, q));
            add(seen, () -> house.unseen(0, q));
            add(seen, () -> house.healed(0, q));
            add(seen, () -> house.least(0, 0, q));
            add(seen, () -> house.ways(0, 0, q));
        }
        add(seen, () -> house.wrong(1, now));
        for (int what = 0; what < 5; what++) {
            int w = what;
            add(seen, () -> house.proof(0, w));
            add(seen, () -> house.proof(1, w));
            add(seen, () -> house.compare(0, w));
        }
        add(seen, () -> house.errors(0));
    }

    private static void pageByLines(FigureHouse house, List<Long> seen) {
        int now = house.count(0);
        for (int line = 0; line < 8; line++) {
            int n = line;
            add(seen, () -> house.figure(0, n, 9, now));
            add(seen, () -> house.kind(0, n, now));
            add(seen, () -> house.safe(0, n));
            add(seen, () -> house.printed(0, n));
            add(seen, () -> house.copied(0, n));
            add(seen, () -> house.right(0, n));
            add(seen, () -> house.figure(1, n, 9, now));
            add(seen, () -> house.printed(1, n));
        }
    }

    /** The numbers of what is told next, and what the sheets hold. */
    private static void tellMore(FigureHouse house, List<Long> seen) {
        add(seen, () -> house.apply(0, 0));
        add(seen, () -> house.apply(0, 1));
        add(seen, () -> house.copied(0, 3));
        add(seen, () -> house.take(0, 4, 1, 3));
        add(seen, () -> house.take(0, 5, 0, 2));
        add(seen, () -> house.figure(0, 5, 9, house.count(0)));
        add(seen, () -> house.take(0, 3, 2, 0));
        add(seen, () -> Edge.yes(house.lose(0)));
        add(seen, () -> Edge.yes(house.mend(1)));
        add(seen, () -> house.slip(0, 7, 1, 1));
        add(seen, house::plan);
        add(seen, () -> house.worth(house.count(2) - 1, 'a', 0, 0, 0));
        add(seen, () -> house.function(0, 1, 1));
        add(seen, () -> house.page(1, 1, 2, 1));
        add(seen, () -> house.copy(0));
        add(seen, () -> house.erratum(0, 0, 1, 1));
        add(seen, () -> house.other(1));
        add(seen, () -> house.sheet(0));
        add(seen, () -> house.days(0));
        add(seen, () -> Edge.yes(house.as(-1)));
        add(seen, () -> house.proof(0, 0));
    }
}
