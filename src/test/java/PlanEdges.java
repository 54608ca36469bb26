/** Sentences about plans, which are texts: promises 9 to 13. */
final class PlanEdges {
    private static final int MIN = Integer.MIN_VALUE;
    private static final int MAX = Integer.MAX_VALUE;

    private PlanEdges() {
    }

    static void run() {
        feed();
        tapeIsFull();
        end();
        clauses();
        conditions();
        sums();
        atoms();
        conditionByItsFirstSign();
        blanks();
        sixWithinOneAnother();
        faults();
        twelve();
        plan();
        nearerEnds();
        divisions();
        worthOfClauses();
        letters();
        worth();
    }

    // ---- the tape

    private static void feed() {
        Edge.of(9, "Twenty bytes more come to the TAPE (of each number the highest first; bytes of 0 are left out): how many it has.");
        FigureHouse house = new FigureHouse();
        Edge.is(house.feed(0, 0, 0, 0, 0), 0);
        Edge.is(house.feed(0x00610000, 0x003A0000, 0x31000032, 0, 0x00000033), 5);
        Edge.is(house.feed(0x2B000034, 0, 0, 0, 0), 7);
        Edge.is(house.plan(), 0);
        Edge.is(house.count(12), 0);
        FigureHouse other = new FigureHouse();
        Edge.is(other.feed(0x613A3132, 0x33342B35, 0x3637382B, 0x32303030, 0x2B333333), 20);
        Edge.is(other.fault(), -1);
        other.plan();
        Edge.is(other.worth(0, 'a', 0, 0, 0), 1234 + 5678 + 2000 + 333);
        // bytes above 127 are bytes too, and no byte is lost by its sign
        Edge.is(other.feed(-1, 0x80808080, 0xFF00FF00, 0x00800080, MIN), 13);
        Edge.is(other.fault(), 0);
    }

    private static FigureHouse tapeOf(int bytes) {
        FigureHouse house = Working.house();
        Due.feed(house, "+111".repeat(40).substring(0, bytes - 3));
        return house;
    }

    private static void tapeIsFull() {
        Edge.of(9, "NONE: more than 160.");
        Edge.is(tapeOf(160).count(12), 160);
        Edge.is(tapeOf(160).fault(), 160);
        Edge.is(tapeOf(159).fault(), -1);
        Edge.is(tapeOf(160).feed(0, 0, 0, 0, 0), 160);
        Edge.is(tapeOf(159).feed(0, 0, 0, 0, '1'), 160);
        Edge.is(tapeOf(140).feed(0x2B313131, 0x2B313131, 0x2B313131, 0x2B313131, 0x2B313131), 160);
        Edge.refuses(() -> tapeOf(160), -1, h -> h.feed(0, 0, 0, 0, '1'), h -> h.feed('1' << 24, 0, 0, 0, 0));
        for (int bit = 0; bit < 32; bit++) {
            int one = 1 << bit;
            Edge.is(tapeOf(160).feed(0, 0, one, 0, 0), -1);
        }
        Edge.refuses(() -> tapeOf(159), -1, h -> h.feed(0, 0, 0, '1', '1'), h -> h.feed(-1, -1, -1, -1, -1));
        Edge.refuses(() -> tapeOf(141), -1, h -> h.feed(0x2B313131, 0x2B313131, 0x2B313131, 0x2B313131, 0x2B313131));
    }

    private static void end() {
        Edge.of(10, "The TAPE has its first n bytes alone.");
        for (int n = 0; n <= 3; n++) {
            FigureHouse house = Working.house();
            Edge.is(house.end(n), true);
            Edge.is(house.count(12), n);
            Edge.is(house.fault(), n == 3 ? -1 : n);
        }
        FigureHouse house = new FigureHouse();
        Edge.is(house.end(0), true);
        Due.feed(house, "a:1+2+4");
        house.end(5);
        house.plan();
        Edge.is(house.worth(0, 'a', 0, 0, 0), 3);
        Edge.of(10, "False: n.");
        Edge.refuses(0, h -> Edge.yes(h.end(-1)), h -> Edge.yes(h.end(4)), h -> Edge.yes(h.end(160)));
        Edge.refuses(0, h -> Edge.yes(h.end(MIN)), h -> Edge.yes(h.end(MAX)));
        Edge.is(new FigureHouse().end(1), false);
    }

    // ---- the grammar

    /** Behind a text, each byte but these (9 stands for all digits) is a fault there; a blank is not asked of. */
    private static void goesOn(String text, String with) {
        for (int sign = 1; sign < 256; sign++) {
            if (sign != ' ') {
                boolean may = with.indexOf(sign >= '0' && sign <= '9' ? '9' : sign) >= 0;
                boolean faulty = Due.faultOf(text + (char) sign) == text.length();
                Edge.is("'" + text + "' and byte " + sign, Edge.yes(faulty), Edge.yes(!may));
            }
        }
    }

    private static void fault(String text, int want) {
        Edge.is(text, Due.faultOf(text), want);
    }

    private static void clauses() {
        Edge.of("CLAUSES with ; between, one at least: a LABEL, a : , perhaps CONDITION ?, then SUM.");
        fault("", 0);
        goesOn("", "aopcmfhskt");
        goesOn("a", ":");
        goesOn("k:1;", "aopcmfhskt");
        goesOn("k:n=1?1;t", ":");
        fault("a:1", -1);
        fault("a:1;", 4);
        fault("a:1;o:2", -1);
        fault("a:1;;o:2", 4);
        fault(";a:1", 0);
        fault("a:n=1?2;o:n<1?3;a:n>1?2;a:7", -1);
        fault("a:n=1", 5);
        fault("a:n=1?", 6);
        fault("a:n=1?2?3", 7);
        fault("a:?2", 2);
    }

    private static void conditions() {
        Edge.of("CONDITION: PARTS with | between; PART: UNITS with & between; UNIT: ! UNIT, ( CONDITION ), or SUM, one of = < >, SUM.");
        goesOn("a:n=1", "9+-*/%&|?");
        goesOn("a:n=n", "+-*/%&|?");
        goesOn("a:n=n&", "9nbx[!(");
        goesOn("a:n=n|", "9nbx[!(");
        goesOn("a:n=n|n", "+-*/%=<>");
        goesOn("a:!", "9nbx[!(");
        goesOn("a:(", "9nbx[!(");
        goesOn("a:(n", "+-*/%=<>");
        goesOn("a:(n=n", "+-*/%&|)");
        goesOn("a:(n=n)", "&|?");
        goesOn("a:!n=n", "+-*/%&|?");
        goesOn("a:!(n=n)", "&|?");
        goesOn("a:n<", "9nbx[");
        goesOn("a:n>", "9nbx[");
        goesOn("a:n=", "9nbx[");
        fault("a:n=1&b=2|x=3&!n<4|(b>5|x>6)&!!n=7?8", -1);
        holds("n=7|b=9&x=9", true);
        holds("(n=7|b=9)&x=9", false);
        holds("n=9&b=9|x=4", true);
        holds("n=9&(b=9|x=4)", false);
        holds("!n=7|b=2", true);
        holds("!(n=7|b=2)", false);
        holds("!!n=7", true);
        holds("n<8&n>6", true);
        holds("n<7|n>7", false);
    }

    private static void holds(String condition, boolean want) {
        Edge.is(Due.worthOf("k:" + condition + "?1", 'k', 7, 2, 4), Edge.yes(want));
    }

    private static void sums() {
        Edge.of("SUM: TERMS with + or - between; TERM: ATOMS with * / or % between;");
        goesOn("a:n", "+-*/%=<>;");
        goesOn("a:n+", "9nbx[");
        goesOn("a:n-", "9nbx[");
        goesOn("a:n*", "9nbx[");
        goesOn("a:n/", "9nbx[");
        goesOn("a:n%", "9nbx[");
        goesOn("a:n=n?n", "+-*/%;");
        sum("n+b*x", 15);
        sum("n*b+x", 18);
        sum("n-b-x", 1);
        sum("100/n/b", 7);
        sum("100%n*b", 4);
        sum("100-n%x", 97);
    }

    private static void sum(String sum, long want) {
        Edge.is(Due.worthOf("k:" + sum, 'k', 7, 2, 4), want);
    }

    private static void atoms() {
        Edge.of("ATOM: a number (1 to 4 digits), a letter (n, b, x), [ SUM ].");
        goesOn("a:", "9nbx[!(");
        goesOn("a:9", "9+-*/%=<>;");
        goesOn("a:99", "9+-*/%=<>;");
        goesOn("a:999", "9+-*/%=<>;");
        goesOn("a:9999", "+-*/%=<>;");
        goesOn("a:0000", "+-*/%=<>;");
        goesOn("a:n=1?9999", "+-*/%;");
        goesOn("a:[", "9nbx[");
        goesOn("a:[n", "+-*/%]");
        goesOn("a:[n]", "+-*/%=<>;");
        goesOn("a:n=[n]", "+-*/%&|?");
        sum("9999", 9999);
        sum("0000", 0);
        sum("0010", 10);
        sum("[n-b]*x", 20);
        sum("n-[b-x]", 9);
    }

    private static void conditionByItsFirstSign() {
        Edge.of("A CLAUSE that goes on, behind its : , with ! or ( has a CONDITION.");
        fault("a:(1)", 4);
        fault("a:(1+2)*3", 6);
        fault("a:!1", 4);
        fault("a:(n=1)", 7);
        fault("a:!n=1", 6);
        fault("a:!n=1;o:1", 6);
        fault("a:(n=1)?(1)", 8);
        fault("a:n=1?!1", 6);
        fault("a:[1]", -1);
        fault("a:[1]=1?2", -1);
    }

    private static void blanks() {
        Edge.of("Blanks (32) may stand between all these, not within numbers;");
        fault("a : ! ( n = [ 1 + b ] * 2 | x < 3 & n > 4 ) ? 5 - 6 / 7 % 8 ; o : 12", -1);
        fault("a   :   1", -1);
        fault("a:1 2", 4);
        fault("a:12 3", 5);
        fault("a:n b", 4);
        fault("a o:1", 2);
        fault("a:  ;", 4);
        fault("a:1234 5", 7);
        fault("a:1\t", 3);
        fault("a:\n1", 2);
        fault("a:1" + (char) 160 + "+2", 3);
        Edge.is(Due.worthOf("k : n = 8 ? 9 ; k : [ n + 1 ] * 2", 'k', 7, 0, 0), 16);
    }

    /** All ways in which six of ( and ! may stand within one another, and behind so many of them [ up to six. */
    private static void sixWithinOneAnother() {
        Edge.of("at most six of ( [ ! within one another.");
        for (int bits = 0; bits < 64; bits++) {
            StringBuilder text = new StringBuilder("a:");
            for (int i = 0; i < 6; i++) {
                text.append((bits >> i & 1) == 0 ? '(' : '!');
            }
            fault(text + "n=1", text.length() + 3);
            fault(text + "(", text.length());
            fault(text + "!", text.length());
            fault(text + "[", text.length());
            for (int sums = 1; sums <= 6; sums++) {
                String some = text.substring(0, 8 - sums) + "[".repeat(sums);
                fault(some + "n", some.length() + 1);
                fault(some + "[", some.length());
            }
        }
        fault("a:((((((n=1))))))?[[[[[[1]]]]]]", -1);
        fault("a:[[[[[[n]]]]]]+[[[[[[n]]]]]]=1&!!!!!!b=1|((((((x=1))))))?2", -1);
        fault("a:!!!!!!n=1&[[[[[[1]]]]]]=1?2", -1);
        fault("a:!!!!!!n=1|!!!!!!!n=1?2", 18);
        fault("a:n=[[[[[[[", 10);
        fault("a:1+[[[[[[1]]]]]];o:[[[[[[[", 26);
    }

    private static void faults() {
        Edge.of("FAULT: the first byte at which no PLAN can go on (the length, if it ends too early); a fifth digit, a seventh of these are such.");
        String whole = "a:!(n=12&[b]<3)?n%7";
        for (int length = 0; length < whole.length(); length++) {
            boolean ends = length == 17;
            fault(whole.substring(0, length), ends ? -1 : length);
            fault(whole.substring(0, length) + "#", length);
        }
        fault("a:12345", 6);
        fault("a:1+99999", 8);
        fault("a:n=00000", 8);
        fault("a:[[[[[[[1", 8);
        fault("a:1)#", 3);
        fault("z:1;;;", 0);
        Edge.of(11, "The FAULT of the TAPE; NONE.");
        Edge.answers(-1, FigureHouse::fault);
        FigureHouse house = Working.house();
        house.feed('+', 0, 0, 0, 0);
        Edge.is(house.fault(), 4);
        house.feed('+', 0, 0, 0, 0);
        Edge.is(house.fault(), 4);
        house.end(0);
        Edge.is(house.fault(), 0);
        Edge.is(new FigureHouse().fault(), 0);
    }

    // ---- plans

    private static FigureHouse twelvePlans() {
        FigureHouse house = Working.house();
        house.plan();
        while (house.count(2) < 12) {
            Due.plan(house, "a:" + house.count(2));
        }
        Due.feed(house, "a:1");
        return house;
    }

    private static void twelve() {
        Edge.of("PLANS (12 texts at most):");
        Edge.is(twelvePlans().count(2), 12);
        for (int plan = 3; plan < 12; plan++) {
            Edge.is(twelvePlans().worth(plan, 'a', 0, 0, 0), plan);
        }
        Edge.refuses(PlanEdges::twelvePlans, -1, FigureHouse::plan);
        Edge.of(12, "there are twelve.");
        FigureHouse house = twelvePlans();
        Edge.is(house.plan(), -1);
        Edge.is(house.count(12), 3);
        Edge.is(house.fault(), -1);
        house.end(0);
        Edge.is(house.plan(), -1);
    }

    private static void plan() {
        Edge.of(12, "The TAPE (empty then; if refused it stays) is a PLAN: its number.");
        FigureHouse house = Working.house();
        Edge.is(house.plan(), 2);
        Edge.is(house.count(12), 0);
        Edge.is(house.fault(), 0);
        Due.feed(house, "a:2");
        Edge.is(house.plan(), 3);
        Edge.is(house.worth(2, 'a', 0, 0, 0), 1);
        Edge.is(house.worth(3, 'a', 0, 0, 0), 2);
        Edge.of(12, "NONE: a FAULT,");
        for (String faulty : new String[] {"", "a", "a:", "a:1;", "a:1 2", "a:12345", "q:1", "a:[[[[[[[1]]]]]]]"}) {
            FigureHouse other = Working.house();
            other.end(0);
            Due.feed(other, faulty);
            int bytes = other.count(12);
            Edge.is(other.plan(), -1);
            Edge.is(other.count(12), bytes);
            Edge.is(other.count(2), 2);
        }
        FigureHouse mended = Working.house();
        Due.feed(mended, ";");
        Edge.is(mended.plan(), -1);
        Due.feed(mended, "o:2");
        Edge.is(mended.plan(), 2);
    }

    // ---- worth

    private static void nearerEnds() {
        Edge.of("Behind each sign numbers are within -1,000,000 .. 1,000,000 (what is beyond is the nearer end);");
        sum("1000*1000", 1000000);
        sum("1000*1000-1", 999999);
        sum("1000*1000+1", 1000000);
        sum("1000*1000+9999-1", 999999);
        sum("1001*1000/1000", 1000);
        sum("9999*9999*9999/9999", 100);
        sum("0-1000*1000", -1000000);
        sum("0-1000*1000-1", -1000000);
        sum("0-1000*1000-9999+1", -999999);
        sum("[0-1001]*1000+1", -999999);
        sum("[0-9999]*9999*[0-9999]", 1000000);
        holds("1000*1000=1001*1000", true);
        holds("1000*1000+1>1000*1000", false);
        holds("999*1001<1000*1000", true);
        int[] far = {MIN, MAX};
        for (int n : far) {
            for (int b : far) {
                // what no letter's own bounds could change: the signs of the ends alone
                Edge.is(Due.worthOf("k:n*b", 'k', n, b, 0), n == b ? 1000000 : -1000000);
                Edge.is(Due.worthOf("k:n*b*n*b", 'k', n, b, 0), 1000000);
                Edge.is(Due.worthOf("k:n+n", 'k', n, b, 0), n > 0 ? 1000000 : -1000000);
            }
            Edge.is(Due.worthOf("k:n/[0-1]", 'k', n, 0, 0), n > 0 ? -1000000 : 1000000);
            Edge.is(Due.worthOf("k:0-n", 'k', n, 0, 0), n > 0 ? -1000000 : 1000000);
            Edge.is(Due.worthOf("k:n-b", 'k', n, -1 - n, 0), n > 0 ? 1000000 : -1000000);
            Edge.is(Due.worthOf("k:n%1", 'k', n, 0, 0), 0);
            Edge.is(Due.worthOf("k:n%[0-1]", 'k', n, 0, 0), 0);
        }
    }

    private static void divisions() {
        Edge.of("/ cuts towards 0, % is what that leaves (by 0 both give 0).");
        sum("7/2", 3);
        sum("[0-7]/2", -3);
        sum("7/[0-2]", -3);
        sum("[0-7]/[0-2]", 3);
        sum("7%2", 1);
        sum("[0-7]%2", -1);
        sum("7%[0-2]", 1);
        sum("[0-7]%[0-2]", -1);
        sum("1/2", 0);
        sum("[0-1]/2", 0);
        sum("6%3", 0);
        sum("7/0", 0);
        sum("7%0", 0);
        sum("0/0", 0);
        sum("0%0", 0);
        sum("9+7/[n-7]*5", 9);
        sum("9+7%[n-7]*5", 9);
        sum("1000*1000/1", 1000000);
    }

    private static void worthOfClauses() {
        Edge.of("WORTH of a LABEL: the SUM of its first CLAUSE whose CONDITION holds (or has none); 0 without.");
        String text = "k:n=1?5;t:9;k:b=2?6;k:x=3?7;t:n=1?8";
        Edge.is(Due.worthOf(text, 'k', 1, 2, 3), 5);
        Edge.is(Due.worthOf(text, 'k', 0, 2, 3), 6);
        Edge.is(Due.worthOf(text, 'k', 0, 0, 3), 7);
        Edge.is(Due.worthOf(text, 'k', 0, 0, 0), 0);
        Edge.is(Due.worthOf(text, 't', 1, 0, 0), 9);
        Edge.is(Due.worthOf(text, 'h', 1, 2, 3), 0);
        Edge.is(Due.worthOf("k:4;k:n=1?5", 'k', 1, 0, 0), 4);
        Edge.is(Due.worthOf("k:n=1?0;k:5", 'k', 1, 0, 0), 0);
    }

    private static void letters() {
        Edge.of("Letters: n a line of a page (from 0 on), b its BLOCK, x its x.");
        FigureHouse house = new FigureHouse();
        house.function(0, 1, 0);
        Due.plan(house, "a:5;o:1;m:3;s:n;t:x;h:b");
        house.page(0, 20, 7, 0);
        for (int line = 0; line < 7; line++) {
            Edge.is(house.lined(0, line, 4), line);
            Edge.is(house.lined(0, line, 3), line / 3);
            Edge.is(house.lined(0, line, 6), 20 + 5 * line);
        }
        Edge.of("LABELS: a interval, o order, p places, c carried, m lines of a BLOCK, f what a half does (these with all letters 0);");
        Due.plan(house, "a:n+4;o:b+2;p:x+3;c:n+b+x+1;m:n-b*x+6;f:n+2");
        house.page(0, 50, 14, 1);
        int[] want = {4, 2, 3, 1, 6, 2};
        for (int i = 0; i < want.length; i++) {
            Edge.is(house.paged(1, i + 2), want[i]);
        }
        String[] head = {"a:4", "o:2", "p:3", "c:1", "m:6", "f:2"};
        for (int i = 0; i < head.length; i++) {
            for (char letter : "nbx".toCharArray()) {
                String plan = "";
                for (int j = 0; j < head.length; j++) {
                    plan += (j == 0 ? "" : ";") + head[j] + (j == i ? "+" + letter : "");
                }
                FigureHouse other = PageEdges.paged(plan, 50, 14);
                Edge.is(plan, other.paged(0, i + 2), want[i]);
            }
        }
        Edge.of("of each line: h who makes it, s who may see it (bits of HANDS), k what is checked there, t how far off it may be there.");
        Due.plan(house, "a:1;o:1;m:3;h:n;s:n*n;k:n%4;t:n*9");
        house.page(0, 50, 7, 2);
        for (int line = 0; line < 7; line++) {
            Edge.is(house.lined(2, line, 3), line);
            Edge.is(house.lined(2, line, 4), line * line);
            Edge.is(house.lined(2, line, 5), line % 4);
            Edge.is(house.lined(2, line, 6), line * 9);
        }
    }

    private static void worth() {
        Edge.of(13, "WORTH of a LABEL (its byte) of a PLAN with letters.");
        Edge.answers(7, h -> h.worth(0, 'a', 0, 0, 0));
        Edge.answers(2, h -> h.worth(0, 104, 5, 0, 0), h -> h.worth(0, 107, 5, 0, 0));
        Edge.answers(-2, h -> h.worth(0, 'h', -5, 0, 0));
        Edge.answers(0, h -> h.worth(1, 'h', 5, 0, 0), h -> h.worth(1, 't', MIN, MIN, MIN));
        Edge.of(13, "NoSuchElementException: no such PLAN, LABEL.");
        Edge.throwsOne(h -> h.worth(2, 'a', 0, 0, 0), h -> h.worth(-1, 'a', 0, 0, 0));
        Edge.throwsOne(h -> h.worth(MIN, 'a', 0, 0, 0), h -> h.worth(MAX, 'a', 0, 0, 0));
        for (int label = -1; label < 300; label++) {
            int l = label;
            if ("aopcmfhskt".indexOf(label) < 0) {
                Edge.answers(Due.THROWS, h -> h.worth(0, l, 5, 0, 0));
            }
        }
        Edge.throwsOne(h -> h.worth(0, 'a' + 256, 0, 0, 0), h -> h.worth(0, 'a' - 256, 0, 0, 0));
        Edge.throwsOne(h -> h.worth(0, MIN, 0, 0, 0), h -> h.worth(0, MAX, 0, 0, 0), h -> h.worth(0, 'a' | MIN, 0, 0, 0));
        Edge.is(Due.answerOf(() -> new FigureHouse().worth(0, 'a', 0, 0, 0)), Due.THROWS);
    }
}
