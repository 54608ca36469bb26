/** Promises 34 to 36: least, ways, first. */
final class LeastTest {
    private static final long WITHOUT = -2000000000L;

    public static void main(String[] args) {
        none();
        one();
        theLastLines();
        severalInOneLine();
        twoAndMore();
        tooMany();
        days();
        blocks();
        Due.end("LeastTest");
    }

    private static FigureHouse long12() {
        FigureHouse house = new FigureHouse();
        house.function(2, 7, 0);
        Due.plan(house, "a:7;o:2;m:12");
        house.page(0, 7, 12, 0);
        return house;
    }

    private static void first(FigureHouse house, int block, int i, long line, long column, long amount) {
        Due.is("line of slip " + i, house.first(0, block, house.count(0), i, 0), line);
        Due.is("column of slip " + i, house.first(0, block, house.count(0), i, 1), column);
        Due.is("amount of slip " + i, house.first(0, block, house.count(0), i, 2), amount);
    }

    private static void none() {
        FigureHouse house = long12();
        Due.is("no slip", house.least(0, 0, 0), 0);
        Due.is("in one way", house.ways(0, 0, 0), 1);
        first(house, 0, 0, WITHOUT, WITHOUT, WITHOUT);
        Due.is("no such block", house.least(0, 1, 0), -1);
        Due.is("no such block", house.ways(0, -1, 0), -1);
        Due.is("no such page", house.least(1, 0, 0), -1);
        Due.is("no such day", house.least(0, 0, 1), -1);
        Due.is("no such day", house.ways(0, 0, -1), -1);
        Due.is("no such day", house.first(0, 0, 1, 0, 0), WITHOUT);
        Due.is("no such page", house.first(-1, 0, 0, 0, 0), WITHOUT);
        Due.is("no such block", house.first(0, 1, 0, 0, 0), WITHOUT);
    }

    private static void one() {
        int[] columns = {0, 1, 9};
        for (int column : columns) {
            FigureHouse house = long12();
            house.slip(0, 5, column, -7);
            Due.is("one slip of column " + column, house.least(0, 0, 0), 1);
            Due.is("in one way", house.ways(0, 0, 0), 1);
            first(house, 0, 0, 5, column, -7);
            first(house, 0, 1, WITHOUT, WITHOUT, WITHOUT);
            Due.is("slip -1", house.first(0, 0, 0, -1, 0), WITHOUT);
            Due.is("what -1", house.first(0, 0, 0, 0, -1), WITHOUT);
            Due.is("what 3", house.first(0, 0, 0, 0, 3), WITHOUT);
        }
    }

    /** Where the block ends, slips of different columns look alike. */
    private static void theLastLines() {
        FigureHouse house = long12();
        house.slip(0, 11, 9, 3);
        Due.is("the last line", house.least(0, 0, 0), 1);
        Due.is("all columns and copied", house.ways(0, 0, 0), 3);
        first(house, 0, 0, 11, 0, 3);
        house.mend(0);
        house.slip(0, 10, 9, 3);
        // copied gives 3, -9; column 0 gives 3, -6; column 1 gives 3, -3
        Due.is("the last but one", house.ways(0, 0, 0), 1);
        first(house, 0, 0, 10, 9, 3);
        house.slip(0, 11, 1, 2);
        // 3, -7 by two slips: any column of line 10, and then any of line 11
        Due.is("two", house.least(0, 0, 0), 2);
        Due.is("nine ways", house.ways(0, 0, 0), 9);
        first(house, 0, 0, 10, 0, 3);
        first(house, 0, 1, 11, 0, -1);
    }

    private static void severalInOneLine() {
        FigureHouse house = long12();
        house.slip(0, 4, 0, 2);
        house.slip(0, 4, 0, 5);
        Due.is("two of one column are one", house.least(0, 0, 0), 1);
        first(house, 0, 0, 4, 0, 7);
        house.slip(0, 4, 1, -7);
        // 7, -14, 7 and -7, 7: what is left is 0, -7, 7, as by column 1 of the next line
        Due.is("two columns are as one of the next line", house.least(0, 0, 0), 1);
        first(house, 0, 0, 5, 1, -7);
        house.slip(0, 4, 0, -7);
        Due.is("back to column 1 alone", house.least(0, 0, 0), 1);
        first(house, 0, 0, 4, 1, -7);
    }

    private static void twoAndMore() {
        FigureHouse house = long12();
        house.slip(0, 3, 0, 2);
        house.slip(0, 8, 1, 1000000);
        Due.is("two", house.least(0, 0, 0), 2);
        first(house, 0, 0, 3, 0, 2);
        first(house, 0, 1, 8, 1, 1000000);
        house.slip(0, 5, 9, 11);
        house.slip(0, 11, 0, 3);
        Due.is("four", house.least(0, 0, 0), 4);
        Due.is("three ways for the last line", house.ways(0, 0, 0), 3);
        first(house, 0, 0, 3, 0, 2);
        first(house, 0, 1, 5, 9, 11);
        first(house, 0, 2, 8, 1, 1000000);
        first(house, 0, 3, 11, 0, 3);
        first(house, 0, 4, WITHOUT, WITHOUT, WITHOUT);
    }

    private static void tooMany() {
        FigureHouse house = new FigureHouse();
        house.function(0, 1, 0);
        Due.plan(house, "a:1;o:1;m:40");
        house.page(0, 1, 40, 0);
        for (int i = 0; i < 5; i++) {
            house.slip(0, 4 + 7 * i, 9, 5);
        }
        Due.is("five far from one another", house.least(0, 0, 0), -1);
        Due.is("no ways", house.ways(0, 0, 0), -1);
        Due.is("no first", house.first(0, 0, 0, 0, 0), WITHOUT);
        house.mend(2);
        Due.is("four of them", house.least(0, 0, 0), 4);
        first(house, 0, 2, 25, 9, 5);
    }

    private static void days() {
        FigureHouse house = long12();
        house.days(1);
        house.slip(0, 6, 0, 9);
        house.days(1);
        house.mend(0);
        Due.is("in 0", house.least(0, 0, 0), 0);
        Due.is("in 1", house.least(0, 0, 1), 1);
        Due.is("in 2", house.least(0, 0, 2), 0);
        Due.is("first in 1", house.first(0, 0, 1, 0, 0), 6);
    }

    private static void blocks() {
        FigureHouse house = new FigureHouse();
        house.function(2, 7, 0);
        Due.plan(house, "a:7;o:1;m:5");
        house.page(0, 7, 11, 0);
        house.slip(0, 7, 0, 4);
        Due.is("block 0", house.least(0, 0, 0), 0);
        Due.is("block 1", house.least(0, 1, 0), 1);
        first(house, 1, 0, 7, 0, 4);
        Due.is("block 2 has a pivot alone", house.least(0, 2, 0), 0);
        Due.is("in one way", house.ways(0, 2, 0), 1);
        Due.is("no block 3", house.least(0, 3, 0), -1);
        Due.is("no block far off", house.least(0, Integer.MAX_VALUE, 0), -1);
    }
}
