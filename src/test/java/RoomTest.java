import java.lang.management.ManagementFactory;

/** All calls of a run live in one room: asking makes nothing anew, and the dearest run stays far inside. */
final class RoomTest {
    private static final com.sun.management.ThreadMXBean BEAN =
            (com.sun.management.ThreadMXBean) ManagementFactory.getThreadMXBean();

    public static void main(String[] args) {
        asking(full());
        long before = made();
        FigureHouse house = full();
        refusedPages(house);
        long bytes = made() - before;
        // 7.3 million fields and elements would be some tens of millions of bytes
        Due.is("a dear run makes few bytes: " + bytes, bytes < 4000000, true);
        Due.end("RoomTest");
    }

    private static long made() {
        return BEAN.getThreadAllocatedBytes(Thread.currentThread().getId());
    }

    /** A house with nearly all that it can hold. */
    private static FigureHouse full() {
        FigureHouse house = new FigureHouse();
        for (int i = 0; i < 10; i++) {
            house.function(i % 3, 1 + i, i);
        }
        for (int i = 0; i < 12; i++) {
            Due.plan(house, "a:2;o:4;p:2;c:1;m:40;h:n%8;s:n;k:1+n%3;t:n*n");
            house.page(i % 10, 100 + i, 40, i);
        }
        for (int i = 0; i < 60; i++) {
            house.slip(0, 5 + i % 35, i % 4, 1 + i);
        }
        for (int i = 0; i < 8; i++) {
            house.set(i);
            house.copy(i);
            house.other(i);
            house.sheet(i % 3);
            house.erratum(i, i, i, i);
        }
        return house;
    }

    private static void asking(FigureHouse house) {
        long sum = 0;
        long before = made();
        for (int i = 0; i < 20; i++) {
            sum += house.unseen(0, 0) + house.healed(0, 0) + house.wrong(0, 0) + house.fails(0, 0) + house.least(0, 0, 0);
            sum += house.best(0, 100, 40, 2, 2, 0, 0) + house.proof(0, 0) + house.rate(1) + house.kept(0, 9, 0);
            sum += house.fault() + house.worth(0, 'h', 1, 2, 3) + house.figure(0, 9, 2, 0) + house.compare(0, 1);
            house.set(0);
        }
        long bytes = made() - before;
        Due.is("asking makes nothing: " + bytes + " bytes (" + sum + ")", bytes < 6000, true);
    }

    private static void refusedPages(FigureHouse house) {
        FigureHouse other = new FigureHouse();
        other.function(0, 1, 0);
        Due.plan(other, "a:2;o:4;p:2;c:1;m:40;h:n");
        for (int i = 0; i < 500; i++) {
            Due.is("refused", other.page(0, 1, 40, 0), -1);
        }
        Due.is("still there", house.count(3), 12);
    }
}
