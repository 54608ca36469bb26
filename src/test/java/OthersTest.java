/** Promises 50 to 52: other, tell, compare. */
final class OthersTest {
    public static void main(String[] args) {
        other();
        tell();
        compare();
        Due.end("OthersTest");
    }

    private static void other() {
        FigureHouse house = Due.housed("");
        Due.is("no such page", house.other(1), -1);
        Due.is("no such page", house.other(-1), -1);
        for (int i = 0; i < 8; i++) {
            Due.is("table " + i, house.other(0), i);
        }
        Due.is("a ninth", house.other(0), -1);
        Due.is("count(10)", house.count(10), 8);
    }

    private static void tell() {
        FigureHouse house = Due.housed("");
        Due.is("no such table", house.tell(0, 0, 1), false);
        house.other(0);
        Due.is("no such table", house.tell(-1, 0, 1), false);
        Due.is("no such line", house.tell(0, 8, 1), false);
        Due.is("no such line", house.tell(0, -1, 1), false);
        Due.is("told", house.tell(0, 7, 504), true);
        Due.is("not set", house.compare(0, 0), -1);
        house.set(0);
        Due.is("one line", house.compare(0, 0), 1);
        Due.is("told anew", house.tell(0, 7, 505), true);
        Due.is("one line still", house.compare(0, 0), 1);
        Due.is("not as printed", house.compare(0, 1), 0);
        Due.is("untold", house.tell(0, 7, -1), true);
        Due.is("no line", house.compare(0, 0), 0);
        Due.is("untold again", house.tell(0, 7, -1), true);
        Due.is("below NONE", house.tell(0, 7, -2), true);
        Due.is("one line", house.compare(0, 0), 1);
    }

    private static void compare() {
        FigureHouse house = Due.housed("");
        house.set(0);
        house.press(0, 3, 0, 7);
        house.press(0, 4, 0, 7);
        house.press(0, 5, 0, 7);
        house.other(0);
        house.other(0);
        house.tell(0, 0, 14);
        house.tell(0, 1, 43);
        house.tell(0, 3, 147);
        house.tell(0, 4, 210);
        house.tell(0, 5, 298);
        house.tell(0, 6, 392);
        long[] want = {6, 3, 1, 1, 3};
        for (int what = 0; what < 5; what++) {
            Due.is("compare " + what, house.compare(0, what), want[what]);
            Due.is("an empty table", house.compare(1, what), 0);
        }
        Due.is("what -1", house.compare(0, -1), -1);
        Due.is("what 5", house.compare(0, 5), -1);
        Due.is("no such table", house.compare(2, 0), -1);
        Due.is("no such table", house.compare(-1, 0), -1);
    }
}
