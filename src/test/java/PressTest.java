/** Promises 41 to 49: set, press, printed, proof, copy, erratum, apply, copied, errors. */
final class PressTest {
    public static void main(String[] args) {
        set();
        asOfADay();
        press();
        pressBelowZero();
        eighty();
        proof();
        copies();
        errata();
        fortyErrata();
        Due.end("PressTest");
    }

    private static void set() {
        FigureHouse house = Due.housed("");
        Due.is("no such page", house.set(1), false);
        Due.is("no such page", house.set(-1), false);
        Due.isThrown("not set", () -> house.printed(0, 0));
        Due.is("set", house.set(0), true);
        Due.is("count(6)", house.count(6), 1);
        Due.is("printed", house.printed(0, 7), 504);
        house.slip(0, 7, 9, 1);
        Due.is("as it was set", house.printed(0, 7), 504);
        Due.is("set anew", house.set(0), true);
        Due.is("printed anew", house.printed(0, 7), 505);
        Due.is("count(6) is of pages", house.count(6), 1);
        Due.isThrown("no such line", () -> house.printed(0, 8));
        Due.isThrown("no such line", () -> house.printed(0, -1));
        Due.isThrown("no such page", () -> house.printed(1, 0));
    }

    private static void asOfADay() {
        FigureHouse house = Due.housed(";c:1");
        house.days(1);
        house.slip(0, 7, 9, 25);
        house.as(0);
        house.set(0);
        Due.is("as known in 0", house.printed(0, 7), 504);
        Due.is("proof as known in 0", house.proof(0, 0), 0);
        house.as(1);
        Due.is("proof as known in 1", house.proof(0, 0), 1);
        house.set(0);
        Due.is("as known in 1, kept", house.printed(0, 7), 507);
    }

    private static void press() {
        FigureHouse house = Due.housed("");
        Due.is("not set", house.press(0, 7, 0, 1), false);
        house.set(0);
        Due.is("no such page", house.press(1, 7, 0, 1), false);
        Due.is("no such line", house.press(0, 8, 0, 1), false);
        Due.is("place -1", house.press(0, 7, -1, 1), false);
        Due.is("place 13", house.press(0, 7, 13, 1), false);
        Due.is("figure -1", house.press(0, 7, 0, -1), false);
        Due.is("figure 10", house.press(0, 7, 0, 10), false);
        Due.is("count(7)", house.count(7), 0);
        Due.is("the last figure", house.press(0, 7, 0, 9), true);
        Due.is("509", house.printed(0, 7), 509);
        Due.is("told anew", house.press(0, 7, 0, 3), true);
        Due.is("503", house.printed(0, 7), 503);
        Due.is("one counts", house.count(7), 1);
        house.press(0, 7, 2, 0);
        Due.is("the first figure gone", house.printed(0, 7), 3);
        house.press(0, 7, 12, 8);
        Due.is("places beyond are 0", house.printed(0, 7), 8000000000003L);
        house.press(0, 6, 1, 9);
        Due.is("the figure that stands", house.printed(0, 6), 392);
        Due.is("it is a press slip", house.count(7), 4);
        house.set(0);
        Due.is("set anew, none", house.count(7), 0);
        Due.is("and as kept", house.printed(0, 7), 504);
    }

    private static void pressBelowZero() {
        FigureHouse house = Due.housed("");
        house.slip(0, 3, 9, -145);
        house.set(0);
        Due.is("-5", house.printed(0, 3), -5);
        house.press(0, 3, 1, 4);
        Due.is("-45", house.printed(0, 3), -45);
        house.press(0, 3, 1, 0);
        house.press(0, 3, 0, 0);
        Due.is("0", house.printed(0, 3), 0);
        house.press(0, 3, 0, 7);
        Due.is("-7", house.printed(0, 3), -7);
    }

    private static void eighty() {
        FigureHouse house = Due.housed("");
        house.page(0, 7, 8, 0);
        house.set(0);
        house.set(1);
        for (int i = 0; i < 80; i++) {
            Due.is("press slip " + i, house.press(i % 2, i / 2 % 8, i / 16, 1), true);
        }
        Due.is("eighty", house.count(7), 80);
        Due.is("one more", house.press(0, 0, 12, 1), false);
        Due.is("told anew is none more", house.press(0, 0, 0, 2), true);
        Due.is("it is printed", house.printed(0, 0) % 10, 2);
        house.set(1);
        Due.is("those of page 1 are gone", house.count(7), 40);
        Due.is("there is room again", house.press(0, 0, 12, 1), true);
    }

    private static void proof() {
        FigureHouse house = Due.housed("");
        Due.is("not set", house.proof(0, 0), -1);
        house.set(0);
        Due.is("no lines", house.proof(0, 0), 0);
        Due.is("none is the first", house.proof(0, 1), -1);
        house.press(0, 6, 0, 3);
        house.press(0, 1, 0, 3);
        Due.is("two", house.proof(0, 0), 2);
        Due.is("line 1", house.proof(0, 1), 1);
        house.slip(0, 6, 9, 1);
        Due.is("a slip as the press", house.proof(0, 0), 1);
        house.press(0, 0, 0, 3);
        Due.is("line 0", house.proof(0, 1), 0);
        Due.is("what -1", house.proof(0, -1), -1);
        Due.is("what 2", house.proof(0, 2), -1);
        Due.is("no such page", house.proof(1, 0), -1);
    }

    private static void copies() {
        FigureHouse house = Due.housed("");
        Due.is("not set", house.copy(0), -1);
        house.set(0);
        house.press(0, 3, 0, 7);
        Due.is("a copy", house.copy(0), 0);
        house.press(0, 3, 0, 8);
        Due.is("as printed then", house.copied(0, 3), 147);
        Due.is("another", house.copy(0), 1);
        Due.is("as printed then", house.copied(1, 3), 148);
        Due.is("one error", house.errors(0), 1);
        house.press(0, 0, 0, 8);
        house.copy(0);
        Due.is("an error in line 0 too", house.errors(2), 2);
        Due.isThrown("no such line", () -> house.copied(0, 8));
        Due.isThrown("no such line", () -> house.copied(0, -1));
        Due.isThrown("no such copy", () -> house.copied(3, 0));
        Due.isThrown("no such copy", () -> house.copied(-1, 0));
        Due.is("no such copy", house.errors(3), -1);
        Due.is("no such copy", house.errors(-1), -1);
        Due.is("no such page", house.copy(1), -1);
        for (int i = 3; i < 8; i++) {
            Due.is("copy " + i, house.copy(0), i);
        }
        Due.is("a ninth", house.copy(0), -1);
        Due.is("count(8)", house.count(8), 8);
    }

    private static void errata() {
        FigureHouse house = Due.housed("");
        Due.is("before it is set", house.erratum(0, 3, 140, 141), 0);
        Due.is("no such line", house.erratum(0, 8, 1, 1), -1);
        Due.is("no such line", house.erratum(0, -1, 1, 1), -1);
        Due.is("no such page", house.erratum(1, 0, 1, 1), -1);
        house.set(0);
        house.copy(0);
        house.copy(0);
        Due.is("no such erratum", house.apply(0, 1), 2);
        Due.is("no such erratum", house.apply(0, -1), 2);
        Due.is("no such copy", house.apply(2, 0), 2);
        Due.is("no such copy", house.apply(-1, 0), 2);
        Due.is("done", house.apply(0, 0), 0);
        Due.is("141", house.copied(0, 3), 141);
        Due.is("the other copy stays", house.copied(1, 3), 140);
        Due.is("the plate stays", house.printed(0, 3), 140);
        Due.is("an error now", house.errors(0), 1);
        Due.is("not there any more", house.apply(0, 0), 1);
        Due.is("141 still", house.copied(0, 3), 141);
        house.erratum(0, 3, 141, Long.MIN_VALUE);
        Due.is("a chain", house.apply(0, 1), 0);
        Due.is("any number", house.copied(0, 3), Long.MIN_VALUE);
        house.page(0, 7, 8, 0);
        house.erratum(1, 3, 140, 9);
        Due.is("of another page", house.apply(1, 2), 2);
        house.set(1);
        house.copy(1);
        Due.is("of its page", house.apply(2, 2), 0);
    }

    private static void fortyErrata() {
        FigureHouse house = Due.housed("");
        for (int i = 0; i < 40; i++) {
            Due.is("erratum " + i, house.erratum(0, i % 8, i, i), i);
        }
        Due.is("one more", house.erratum(0, 0, 0, 0), -1);
        Due.is("count(9)", house.count(9), 40);
    }
}
