/** Promises 53 to 56: sheet, put, lose, take. */
final class SheetsTest {
    public static void main(String[] args) {
        sheet();
        put();
        lose();
        take();
        takeAsOfADay();
        takeRefused();
        Due.end("SheetsTest");
    }

    private static void sheet() {
        FigureHouse house = new FigureHouse();
        Due.is("kind -1", house.sheet(-1), -1);
        Due.is("kind 3", house.sheet(3), -1);
        for (int i = 0; i < 8; i++) {
            Due.is("sheet " + i, house.sheet(i % 3), i);
        }
        Due.is("a ninth", house.sheet(0), -1);
        Due.is("count(11)", house.count(11), 8);
    }

    /** The number that a place of a sheet of a kind has of v, as line 3 of a page takes it. */
    private static long held(int kind, int v) {
        FigureHouse house = Due.housed("");
        house.sheet(kind);
        Due.is("put " + v, house.put(0, 39, v), true);
        return house.take(0, 3, 0, 39) >= 0 ? house.figure(0, 3, 9, 0) : -1;
    }

    private static void put() {
        Due.is("127 as a byte", held(0, 127), 127);
        Due.is("128 as a byte", held(0, 128), -128);
        Due.is("-129 as a byte", held(0, -129), 127);
        Due.is("256 as a byte", held(0, 256), 0);
        Due.is("32767 as a short", held(1, 32767), 32767);
        Due.is("32768 as a short", held(1, 32768), -32768);
        Due.is("1000000000 as a short", held(1, 1000000000), (short) 1000000000);
        Due.is("1000000 as a long", held(2, 1000000), 1000000);
        Due.is("-999860 as a long", held(2, -999860), -999860);
        FigureHouse house = new FigureHouse();
        house.sheet(2);
        Due.is("no such sheet", house.put(1, 0, 1), false);
        Due.is("no such sheet", house.put(-1, 0, 1), false);
        Due.is("place -1", house.put(0, -1, 1), false);
        Due.is("place 40", house.put(0, 40, 1), false);
        Due.is("too high", house.put(0, 0, 1000000001), false);
        Due.is("too low", house.put(0, 0, -1000000001), false);
        Due.is("the highest", house.put(0, 0, 1000000000), true);
        Due.is("the lowest", house.put(0, 0, -1000000000), true);
    }

    private static void lose() {
        FigureHouse house = new FigureHouse();
        Due.is("no such sheet", house.lose(0), false);
        house.sheet(0);
        Due.is("no such sheet", house.lose(-1), false);
        Due.is("lost", house.lose(0), true);
        Due.is("lost already", house.lose(0), false);
        Due.is("put into a lost one", house.put(0, 0, 1), false);
        Due.is("count(11) stays", house.count(11), 1);
    }

    private static void take() {
        FigureHouse house = Due.housed("");
        house.sheet(2);
        house.put(0, 5, 150);
        Due.is("a slip", house.take(0, 3, 0, 5), 0);
        Due.is("the number", house.figure(0, 3, 9, 0), 150);
        Due.is("nothing leans on it", house.figure(0, 4, 9, 0), 210);
        Due.is("column 0 stays", house.figure(0, 3, 0, 0), 140);
        Due.is("it is the number already", house.take(0, 3, 0, 5), -3);
        Due.is("nothing told", house.count(4), 1);
        house.put(0, 5, 160);
        Due.is("from another number", house.take(0, 3, 0, 5), 1);
        Due.is("both are added", house.figure(0, 3, 9, 0), 160);
        Due.is("nothing was put there: 0", house.take(0, 4, 0, 6), 2);
        Due.is("0", house.figure(0, 4, 9, 0), 0);
        Due.is("rate counts it", house.rate(0), 400);
        Due.is("mended like others", house.mend(2), true);
        Due.is("210", house.figure(0, 4, 9, 0), 210);
    }

    private static void takeAsOfADay() {
        FigureHouse house = Due.housed("");
        house.sheet(2);
        house.put(0, 0, 145);
        house.days(1);
        house.slip(0, 3, 9, 5);
        house.as(0);
        Due.is("off the number as known in 0", house.take(0, 3, 0, 0), 1);
        Due.is("told now", house.figure(0, 3, 9, 1), 150);
        Due.is("not in 0", house.figure(0, 3, 9, 0), 140);
        house.as(-1);
        house.put(0, 0, 150);
        Due.is("the number as known now", house.take(0, 3, 0, 0), -3);
    }

    private static void takeRefused() {
        FigureHouse house = Due.housed("");
        house.sheet(2);
        house.sheet(2);
        house.lose(1);
        Due.is("no such sheet", house.take(0, 3, 2, 99), -1);
        Due.is("no such sheet", house.take(0, 3, -1, 0), -1);
        Due.is("a pivot ahead of all", house.take(0, 2, 1, 99), -1);
        Due.is("no such line", house.take(0, 8, 1, 0), -1);
        Due.is("no such page", house.take(1, 3, 1, 0), -1);
        Due.is("lost", house.take(0, 3, 1, 0), -2);
        Due.is("no such place", house.take(0, 3, 0, 40), -2);
        Due.is("no such place", house.take(0, 3, 0, -1), -2);
        house.put(0, 0, 1000141);
        Due.is("off by more than a million", house.take(0, 3, 0, 0), -1);
        house.put(0, 0, -999861);
        Due.is("off by more than a million", house.take(0, 3, 0, 0), -1);
        house.put(0, 0, -999860);
        Due.is("off by a million", house.take(0, 3, 0, 0), 0);
        house.put(0, 1, 1000210);
        Due.is("off by a million", house.take(0, 4, 0, 1), 1);
        for (int i = 2; i < 60; i++) {
            house.slip(0, 7, 9, 1);
        }
        Due.is("sixty slips: lost comes ahead", house.take(0, 3, 1, 0), -2);
        Due.is("sixty slips: the same comes ahead", house.take(0, 3, 0, 0), -3);
        house.put(0, 0, 1);
        Due.is("sixty slips", house.take(0, 3, 0, 0), -1);
        Due.is("count(4)", house.count(4), 60);
    }
}
