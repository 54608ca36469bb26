/** Sentences about plates, the press, copies and errata: promises 41 to 49. */
final class PressEdges {
    private static final int MIN = Integer.MIN_VALUE;
    private static final int MAX = Integer.MAX_VALUE;

    private PressEdges() {
    }

    static void run() {
        setAsKnown();
        set();
        pressedFigures();
        sizeAndPlaces();
        toldLast();
        setAnew();
        eighty();
        press();
        printed();
        proofAsKnown();
        proof();
        eightCopies();
        copy();
        fortyErrata();
        erratum();
        applying();
        apply();
        copied();
        errors();
    }

    // ---- plates

    private static void setAsKnown() {
        Edge.of("PLATES: a PAGE is set as it is KEPT, as known in AS:");
        long[][] want = {{210, 294, 392, 504}, {210, 295, 392, 506}, {210, 295, 392, 506}, {210, 294, 391, 504}};
        for (int day = 0; day <= 4; day++) {
            FigureHouse house = Working.house();
            house.as(day == 4 ? -1 : day);
            house.set(0);
            for (int line = 4; line < 8; line++) {
                Edge.is("as " + day + ", line " + line, house.printed(0, line), want[Math.min(day, 3)][line - 4]);
            }
            house.as(0);
            house.slip(0, 4, 0, 1000);
            Edge.is(house.printed(0, 7), want[Math.min(day, 3)][3]);
        }
    }

    private static void set() {
        Edge.of(41, "A PAGE is set.");
        Edge.answers(1, h -> Edge.yes(h.set(0)), h -> Edge.yes(h.set(1)));
        FigureHouse house = Working.house();
        house.set(1);
        Edge.is(house.count(6), 2);
        Edge.is(house.printed(1, 6), 67);
        Edge.of(41, "False: no such one.");
        Edge.refuses(0, h -> Edge.yes(h.set(2)), h -> Edge.yes(h.set(-1)), h -> Edge.yes(h.set(MAX)), h -> Edge.yes(h.set(MIN)));
        Edge.is(new FigureHouse().set(0), false);
    }

    private static void pressedFigures() {
        Edge.of("a line, a place (0 the last figure) has another figure (0 .. 9) instead");
        for (int figure = 0; figure <= 9; figure++) {
            FigureHouse house = Due.housed("");
            house.set(0);
            Edge.is(house.press(0, 7, 0, figure), true);
            Edge.is(house.printed(0, 7), 500 + figure);
            Edge.is(house.press(0, 6, 1, figure), true);
            Edge.is(house.printed(0, 6), 302 + 10 * figure);
            Edge.is(house.press(0, 5, 2, figure), true);
            Edge.is(house.printed(0, 5), 94 + 100 * figure);
            Edge.is(house.printed(0, 4), 210);
            Edge.is(house.count(7), 3);
        }
    }

    private static void sizeAndPlaces() {
        Edge.of("(the size without its sign; places beyond are 0;");
        FigureHouse house = Due.housed("");
        house.slip(0, 3, 9, -152);
        house.slip(0, 4, 9, -210);
        house.set(0);
        Edge.is(house.printed(0, 3), -12);
        house.press(0, 3, 0, 5);
        Edge.is(house.printed(0, 3), -15);
        house.press(0, 3, 1, 0);
        Edge.is(house.printed(0, 3), -5);
        house.press(0, 3, 12, 9);
        Edge.is(house.printed(0, 3), -9000000000005L);
        house.press(0, 4, 2, 7);
        Edge.is(house.printed(0, 4), 700);
        for (int place = 3; place <= 12; place++) {
            FigureHouse other = Due.housed("");
            other.set(0);
            Edge.is(other.press(0, 7, place, 8), true);
            long unit = 1;
            for (int i = 0; i < place; i++) {
                unit *= 10;
            }
            Edge.is("place " + place, other.printed(0, 7), 504 + 8 * unit);
            other.press(0, 7, place, 0);
            Edge.is(other.printed(0, 7), 504);
        }
        // the longest numbers have all 13 places
        FigureHouse longest = new FigureHouse();
        longest.function(2, 99, 99);
        Due.plan(longest, "a:1;o:1;m:3;p:5");
        longest.page(0, 9998, 2, 0);
        longest.set(0);
        Edge.is(longest.printed(0, 1), 1442428585714L);
        for (int place = 0; place <= 12; place++) {
            longest.press(0, 1, place, 9 - place % 2);
        }
        Edge.is(longest.printed(0, 1), 9898989898989L);
    }

    private static void toldLast() {
        Edge.of("told last of line and place counts);");
        FigureHouse house = Due.housed("");
        house.set(0);
        for (int figure = 9; figure >= 0; figure--) {
            Edge.is(house.press(0, 7, 1, figure), true);
            Edge.is(house.printed(0, 7), 504 + 10 * figure);
            Edge.is(house.count(7), 1);
        }
        house.press(0, 7, 0, 1);
        house.press(0, 6, 1, 1);
        Edge.is(house.count(7), 3);
    }

    private static void setAnew() {
        Edge.of("a PAGE set anew has none.");
        FigureHouse house = Working.house();
        house.set(1);
        house.press(1, 6, 12, 3);
        Edge.is(house.count(7), 3);
        house.set(0);
        Edge.is(house.count(7), 1);
        Edge.is(house.count(6), 2);
        Edge.is(house.printed(0, 3), 140);
        Edge.is(house.printed(0, 5), 295);
        Edge.is(house.printed(1, 6), 3000000000067L);
        house.set(1);
        Edge.is(house.count(7), 0);
        Edge.is(house.printed(1, 6), 67);
    }

    private static FigureHouse eightyPressed() {
        FigureHouse house = Working.house();
        for (int i = 0; house.count(7) < 80; i++) {
            house.press(0, i % 8, i / 8, i % 10);
        }
        return house;
    }

    private static void eighty() {
        Edge.of("PRINTED is each line, but for press slips (80 at most at a time, of one line and place one):");
        FigureHouse house = Due.housed("");
        house.page(0, 7, 8, 0);
        house.set(0);
        house.set(1);
        for (int i = 0; i < 80; i++) {
            Edge.is(house.press(i % 2, i / 2 % 8, i / 16, 1), true);
            Edge.is(house.count(7), i + 1);
        }
        Edge.is(house.press(0, 0, 12, 1), false);
        Edge.is(house.press(1, 7, 12, 1), false);
        Edge.is(house.count(7), 80);
        house.set(1);
        Edge.is(house.count(7), 40);
        for (int i = 0; i < 40; i++) {
            Edge.is(house.press(0, i % 8, 5 + i / 8, 1), true);
        }
        Edge.is(house.press(1, 7, 12, 1), false);
        FigureHouse one = Due.housed("");
        one.set(0);
        for (int i = 0; i < 100; i++) {
            one.press(0, 7, 0, i % 10);
        }
        Edge.is(one.count(7), 1);
        Edge.is(one.press(0, 7, 1, 1), true);
        Edge.of(42, "there are 80.");
        Edge.refuses(PressEdges::eightyPressed, 0, h -> Edge.yes(h.press(0, 0, 12, 1)), h -> Edge.yes(h.press(0, 7, 11, 9)));
    }

    private static void press() {
        Edge.of(42, "A press slip.");
        Edge.answers(1, h -> Edge.yes(h.press(0, 0, 0, 0)), h -> Edge.yes(h.press(0, 7, 12, 9)));
        Edge.of(42, "False: no such PAGE that is set, line, place (0 .. 12), figure;");
        Edge.refuses(0, h -> Edge.yes(h.press(1, 0, 0, 1)), h -> Edge.yes(h.press(2, 0, 0, 1)), h -> Edge.yes(h.press(-1, 0, 0, 1)));
        Edge.refuses(0, h -> Edge.yes(h.press(MAX, 0, 0, 1)), h -> Edge.yes(h.press(MIN, 0, 0, 1)));
        Edge.refuses(0, h -> Edge.yes(h.press(0, 8, 0, 1)), h -> Edge.yes(h.press(0, -1, 0, 1)));
        Edge.refuses(0, h -> Edge.yes(h.press(0, MAX, 0, 1)), h -> Edge.yes(h.press(0, MIN, 0, 1)));
        Edge.refuses(0, h -> Edge.yes(h.press(0, 0, 13, 1)), h -> Edge.yes(h.press(0, 0, -1, 1)), h -> Edge.yes(h.press(0, 0, 16, 1)));
        Edge.refuses(0, h -> Edge.yes(h.press(0, 0, MAX, 1)), h -> Edge.yes(h.press(0, 0, MIN, 1)));
        Edge.refuses(0, h -> Edge.yes(h.press(0, 0, 0, 10)), h -> Edge.yes(h.press(0, 0, 0, -1)));
        Edge.refuses(0, h -> Edge.yes(h.press(0, 0, 0, MAX)), h -> Edge.yes(h.press(0, 0, 0, MIN)));
        Edge.is(new FigureHouse().press(0, 0, 0, 0), false);
    }

    private static void printed() {
        Edge.of(43, "PRINTED.");
        Edge.answers(14, h -> h.printed(0, 0));
        Edge.answers(147, h -> h.printed(0, 3));
        Edge.answers(225, h -> h.printed(0, 5));
        Edge.answers(506, h -> h.printed(0, 7));
        Edge.of(43, "NoSuchElementException: no such line, not set.");
        Edge.throwsOne(h -> h.printed(0, 8), h -> h.printed(0, -1), h -> h.printed(0, MAX), h -> h.printed(0, MIN));
        Edge.throwsOne(h -> h.printed(2, 0), h -> h.printed(-1, 0), h -> h.printed(MAX, 0), h -> h.printed(MIN, 0));
        Edge.throwsOne(h -> h.printed(1, 0), h -> h.printed(1, 7));
    }

    private static void proofAsKnown() {
        Edge.of("PROOF: lines whose PRINTED is not KEPT as known in AS.");
        // the plate: 14 42 84 147 210 225 392 506, set as known in 2
        for (int day = 0; day <= 3; day++) {
            FigureHouse house = Working.house();
            house.as(day);
            Edge.is("as " + day, house.proof(0, 0), new long[] {3, 2, 2, 4}[day]);
            Edge.is(house.proof(0, 1), 3);
            house.set(0);
            Edge.is(house.proof(0, 0), 0);
        }
        FigureHouse whole = Due.housed("");
        whole.set(0);
        whole.press(0, 7, 0, 4);
        Edge.is(whole.proof(0, 0), 0);
        whole.press(0, 7, 0, 5);
        Edge.is(whole.proof(0, 0), 1);
        whole.slip(0, 7, 9, 1);
        Edge.is(whole.proof(0, 0), 0);
    }

    private static void proof() {
        Edge.of(44, "PROOF: how many lines (0), the first one (1).");
        Edge.answers(2, h -> h.proof(0, 0));
        Edge.answers(3, h -> h.proof(0, 1));
        FigureHouse house = Due.housed("");
        house.set(0);
        house.press(0, 7, 0, 5);
        Edge.is(house.proof(0, 1), 7);
        house.press(0, 0, 0, 5);
        Edge.is(house.proof(0, 1), 0);
        Edge.is(house.proof(0, 0), 2);
        Edge.of(44, "NONE: no such PAGE that is set, none, what.");
        Edge.refuses(-1, h -> h.proof(1, 0), h -> h.proof(1, 1), h -> h.proof(2, 0), h -> h.proof(-1, 0));
        Edge.refuses(-1, h -> h.proof(MAX, 0), h -> h.proof(MIN, 1));
        Edge.refuses(-1, h -> h.proof(0, 2), h -> h.proof(0, -1), h -> h.proof(0, MAX), h -> h.proof(0, MIN));
        FigureHouse none = Due.housed("");
        none.set(0);
        Edge.is(none.proof(0, 1), -1);
        Edge.is(none.proof(0, 0), 0);
    }

    // ---- copies and errata

    private static FigureHouse eightOf() {
        FigureHouse house = Working.house();
        while (house.count(8) < 8) {
            house.copy(0);
        }
        return house;
    }

    private static void eightCopies() {
        Edge.of("COPIES (8 at most) of a PLATE as PRINTED then.");
        FigureHouse house = Due.housed("");
        house.set(0);
        for (int i = 0; i < 8; i++) {
            house.press(0, 7, 0, i);
            Edge.is(house.copy(0), i);
        }
        Edge.is(house.copy(0), -1);
        Edge.is(house.count(8), 8);
        house.slip(0, 7, 0, 100);
        house.set(0);
        for (int i = 0; i < 8; i++) {
            Edge.is(house.copied(i, 7), 500 + i);
            Edge.is(house.copied(i, 6), 392);
        }
        Edge.of(45, "there are eight.");
        Edge.refuses(PressEdges::eightOf, -1, h -> h.copy(0));
    }

    private static void copy() {
        Edge.of(45, "A COPY: its number.");
        Edge.answers(1, h -> h.copy(0));
        Edge.of(45, "NONE: no such PAGE that is set,");
        Edge.refuses(-1, h -> h.copy(1), h -> h.copy(2), h -> h.copy(-1), h -> h.copy(MAX), h -> h.copy(MIN));
        Edge.is(new FigureHouse().copy(0), -1);
    }

    private static FigureHouse fortyOf() {
        FigureHouse house = Working.house();
        while (house.count(9) < 40) {
            house.erratum(0, 0, 1, 2);
        }
        return house;
    }

    private static void fortyErrata() {
        Edge.of("ERRATA (40 at most): a PAGE, a line, an old and a new number.");
        FigureHouse house = Due.housed("");
        for (int i = 0; i < 40; i++) {
            Edge.is(house.erratum(0, 7, 504 + i, 505 + i), i);
        }
        Edge.is(house.erratum(0, 7, 1, 2), -1);
        Edge.is(house.count(9), 40);
        house.set(0);
        house.copy(0);
        for (int i = 0; i < 40; i++) {
            Edge.is(house.apply(0, i), 0);
        }
        Edge.is(house.apply(0, 40), 2);
        Edge.is(house.copied(0, 7), 544);
        Edge.of(46, "there are 40.");
        Edge.refuses(PressEdges::fortyOf, -1, h -> h.erratum(0, 0, 1, 2), h -> h.erratum(1, 6, 1, 2));
    }

    private static void erratum() {
        Edge.of(46, "An ERRATUM: its number.");
        long least = Long.MIN_VALUE;
        long most = Long.MAX_VALUE;
        Edge.answers(2, h -> h.erratum(0, 0, 1, 1), h -> h.erratum(0, 7, least, most), h -> h.erratum(1, 6, -1, -1));
        Edge.of(46, "NONE: no such line,");
        Edge.refuses(-1, h -> h.erratum(0, 8, 1, 2), h -> h.erratum(0, -1, 1, 2), h -> h.erratum(0, MAX, 1, 2), h -> h.erratum(0, MIN, 1, 2));
        Edge.refuses(-1, h -> h.erratum(2, 0, 1, 2), h -> h.erratum(-1, 0, 1, 2), h -> h.erratum(MAX, 0, 1, 2), h -> h.erratum(MIN, 0, 1, 2));
        Edge.refuses(-1, h -> h.erratum(1, 7, 1, 2));
    }

    private static void applying() {
        Edge.of("APPLYING one to a COPY of its PAGE: if the line has the old number, it is the new one; else it is NOT THERE, and nothing is done.");
        FigureHouse house = Due.housed("");
        house.set(0);
        house.copy(0);
        house.copy(0);
        long[][] told = {{503, 7}, {505, 7}, {504, Long.MAX_VALUE}, {Long.MAX_VALUE, Long.MIN_VALUE}, {Long.MIN_VALUE, 504}, {504, 504}, {504L + (1L << 32), 1}};
        long[] want = {1, 1, 0, 0, 0, 0, 1};
        long[] then = {504, 504, Long.MAX_VALUE, Long.MIN_VALUE, 504, 504, 504};
        for (int i = 0; i < told.length; i++) {
            house.erratum(0, 7, told[i][0], told[i][1]);
            Edge.is("erratum " + i, house.apply(0, i), want[i]);
            Edge.is(house.copied(0, 7), then[i]);
            Edge.is(house.copied(0, 6), 392);
            Edge.is(house.copied(1, 7), 504);
            Edge.is(house.printed(0, 7), 504);
        }
    }

    private static void apply() {
        Edge.of(47, "APPLYING: 0 done, 1 NOT THERE, 2 no such ones, or of another PAGE.");
        Edge.answers(0, h -> h.apply(0, 0));
        Edge.refuses(PressEdges::appliedOnce, 1, h -> h.apply(0, 0));
        Edge.refuses(2, h -> h.apply(1, 0), h -> h.apply(-1, 0), h -> h.apply(MAX, 0), h -> h.apply(MIN, 0));
        Edge.refuses(2, h -> h.apply(0, 2), h -> h.apply(0, -1), h -> h.apply(0, MAX), h -> h.apply(0, MIN));
        Edge.refuses(2, h -> h.apply(0, 1), h -> h.apply(1, 2), h -> h.apply(-1, -1));
        Edge.refuses(PressEdges::alikeElsewhere, 2, h -> h.apply(0, 2));
        Edge.is(new FigureHouse().apply(0, 0), 2);
    }

    private static FigureHouse appliedOnce() {
        FigureHouse house = Working.house();
        house.apply(0, 0);
        return house;
    }

    /** Erratum 2 is of page 2, which is page 0 once more: the copy has its old number, but is of page 0. */
    private static FigureHouse alikeElsewhere() {
        FigureHouse house = Working.house();
        house.page(0, 7, 8, 0);
        house.erratum(2, 0, 14, 15);
        return house;
    }

    private static void copied() {
        Edge.of(48, "A line of a COPY.");
        Edge.answers(14, h -> h.copied(0, 0));
        Edge.answers(506, h -> h.copied(0, 7));
        Edge.of(48, "NoSuchElementException: no such ones.");
        Edge.throwsOne(h -> h.copied(0, 8), h -> h.copied(0, -1), h -> h.copied(0, MAX), h -> h.copied(0, MIN));
        Edge.throwsOne(h -> h.copied(1, 0), h -> h.copied(-1, 0), h -> h.copied(MAX, 0), h -> h.copied(MIN, 0));
        FigureHouse house = Working.house();
        house.set(1);
        house.copy(1);
        Edge.is(house.copied(1, 6), 67);
        Edge.is(Due.answerOf(() -> house.copied(1, 7)), Due.THROWS);
    }

    private static void errors() {
        Edge.of(49, "How many lines of a COPY are not RIGHT.");
        Edge.answers(3, h -> h.errors(0));
        FigureHouse house = Working.house();
        house.apply(0, 0);
        Edge.is(house.errors(0), 2);
        house.set(1);
        house.copy(1);
        Edge.is(house.errors(1), 1);
        house.press(1, 0, 0, 2);
        house.press(1, 6, 0, 8);
        house.copy(1);
        Edge.is(house.errors(2), 3);
        Edge.of(49, "NONE: no such one.");
        Edge.refuses(-1, h -> h.errors(1), h -> h.errors(-1), h -> h.errors(MAX), h -> h.errors(MIN));
        Edge.is(new FigureHouse().errors(0), -1);
    }
}
