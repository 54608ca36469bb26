/** Promises 9 to 13: feed, end, fault, plan, worth. */
final class PlansTest {
    public static void main(String[] args) {
        feed();
        end();
        faults();
        blanks();
        depths();
        plan();
        worthOfSums();
        worthOfConditions();
        worthOfLabels();
        Due.end("PlansTest");
    }

    private static void feed() {
        FigureHouse house = new FigureHouse();
        Due.is("no bytes", house.feed(0, 0, 0, 0, 0), 0);
        Due.is("a:1, the highest first", house.feed(0x613A3100, 0, 0, 0, 0), 3);
        Due.is("that is no fault", house.fault(), -1);
        Due.is("bytes of 0 between", house.feed(0x00003B00, 0x6F000000, 0x003A0000, 0x00000032, 0), 7);
        Due.is("a:1;o:2", house.fault(), -1);
        Due.is("bytes above 127", house.feed(0xFF80FFFF, -1, -1, -1, -1), 27);
        for (int i = 2; i <= 7; i++) {
            house.feed(-1, -1, -1, -1, -1);
        }
        Due.is("147 bytes", house.count(12), 147);
        Due.is("fourteen more", house.feed(-1, -1, -1, 0x01010000, 0), -1);
        Due.is("none of them came", house.count(12), 147);
        Due.is("thirteen more", house.feed(-1, -1, -1, 0x01000000, 0), 160);
        Due.is("one more", house.feed(0, 0, 0, 0, 1), -1);
        Due.is("none more", house.feed(0, 0, 0, 0, 0), 160);
    }

    private static void end() {
        FigureHouse house = new FigureHouse();
        Due.feed(house, "a:12");
        Due.is("end(-1)", house.end(-1), false);
        Due.is("end(5)", house.end(5), false);
        Due.is("end(4)", house.end(4), true);
        Due.is("end(3)", house.end(3), true);
        Due.is("count(12)", house.count(12), 3);
        Due.is("end(4) now", house.end(4), false);
        house.plan();
        Due.is("its first bytes are there", house.worth(0, 'a', 0, 0, 0), 1);
    }

    private static void fault(String text, int want) {
        Due.is("fault of " + text, Due.faultOf(text), want);
    }

    private static void faults() {
        fault("", 0);
        fault("a", 1);
        fault("a:", 2);
        fault("a:1", -1);
        fault("a1", 1);
        fault("b:1", 0);
        fault("n:1", 0);
        fault(":1", 0);
        for (char label : "aopcmfhskt".toCharArray()) {
            fault(label + ":1", -1);
        }
        fault("a:1;", 4);
        fault("a:1;;", 4);
        fault("a:1;o:n", -1);
        fault("a:1;z:n", 4);
        fault("a:1234", -1);
        fault("a:12345", 6);
        fault("a:0000", -1);
        fault("a:1n", 3);
        fault("a:n1", 3);
        fault("a:y", 2);
        fault("a:1+", 4);
        fault("a:+1", 2);
        fault("a:-1", 2);
        fault("a:1+*2", 4);
        fault("a:1*2/3%4-5", -1);
        fault("a:[1+2]*3", -1);
        fault("a:[1+2", 6);
        fault("a:[1+2)", 6);
        fault("a:[]", 3);
        fault("a:1]", 3);
        fault("a:(1)", 4);
        fault("a:(1+2)=3?4", 6);
        fault("a:n=1", 5);
        fault("a:n=1;o:2", 5);
        fault("a:n=1?", 6);
        fault("a:n=1?2", -1);
        fault("a:n=1?2=3", 7);
        fault("a:n=1=1?2", 5);
        fault("a:n?2", 3);
        fault("a:n&b=1?2", 3);
        fault("a:n=1&?2", 6);
        fault("a:n=1&b>2|!x<3?2", -1);
        fault("a:!n?2", 4);
        fault("a:!n=1?2", -1);
        fault("a:(n=1)?2", -1);
        fault("a:(n=1?2", 6);
        fault("a:(n=1)", 7);
        fault("a:(n=1)+1", 7);
        fault("a:[n=1]?2", 4);
        fault("a:n=(1)?2", 4);
        fault("a:n=!1?2", 4);
        fault("a:1?2?3", 3);
        fault("a:n=1?2?3", 7);
        fault("a:n=1?!2", 6);
        fault("A:1", 0);
        fault("a:1" + (char) 200, 3);
    }

    private static void blanks() {
        fault("a : 1 + [ n ] ; o : n = 1 & ! ( b > 2 ) ? 3", -1);
        fault("a:1 2", 4);
        fault("a:1 n", 4);
        fault("a:  ", 4);
        fault("a:1 ;  ", 7);
        fault("a:1   ", -1);
        fault("  a:1", -1);
        fault("a:1\t", 3);
    }

    private static void depths() {
        fault("a:[[[[[[1]]]]]]", -1);
        fault("a:[[[[[[[1]]]]]]]", 8);
        fault("a:((((((n=1))))))?2", -1);
        fault("a:(((((((n=1)))))))?2", 8);
        fault("a:!!!!!!n=1?2", -1);
        fault("a:!!!!!!!n=1?2", 8);
        fault("a:!(!(!([n]=1)))?2", 8);
        fault("a:!(!(![n]=1))?2", -1);
        fault("a:!(!(![[n]]=1))?2", 8);
        fault("a:!(!(!n=[1]))?2", -1);
        fault("a:!!!!!!n=[1]?2", 10);
        fault("a:!!!!!!n=1&!!!!!!n=2?[[[[[[1]]]]]]+[[[[[[2]]]]]]", -1);
        fault("a:!(!(!(n=1)&!(n=2)))?2", -1);
    }

    private static void plan() {
        FigureHouse house = new FigureHouse();
        Due.is("an empty tape", house.plan(), -1);
        Due.feed(house, "a:1;");
        Due.is("a faulty tape", house.plan(), -1);
        Due.is("it stays", house.count(12), 4);
        house.end(3);
        Due.is("a tape", house.plan(), 0);
        Due.is("it is empty then", house.count(12), 0);
        for (int i = 1; i < 12; i++) {
            Due.is("plan " + i, Due.plan(house, "a:" + i), i);
        }
        Due.is("a thirteenth", Due.plan(house, "a:13"), -1);
        Due.is("its tape stays", house.count(12), 4);
        Due.is("that is no fault", house.fault(), -1);
        Due.is("count(2)", house.count(2), 12);
        for (int i = 1; i < 12; i++) {
            Due.is("worth of plan " + i, house.worth(i, 'a', 0, 0, 0), i);
        }
    }

    private static void sum(String sum, long want) {
        Due.is("worth of " + sum, Due.worthOf("a:" + sum, 'a', 7, 2, 100), want);
    }

    private static void worthOfSums() {
        sum("0012", 12);
        sum("n", 7);
        sum("b", 2);
        sum("x", 100);
        sum("2+3*4", 14);
        sum("[2+3]*4", 20);
        sum("9-3-2", 4);
        sum("9-[3-2]", 8);
        sum("100/7/2", 7);
        sum("100/[7/2]", 33);
        sum("17%10/2", 3);
        sum("2*7%4", 2);
        sum("3-10/4", 1);
        sum("[3-10]/2", -3);
        sum("[3-10]%4", -3);
        sum("7/[1-3]", -3);
        sum("7%[1-3]", 1);
        sum("5/0", 0);
        sum("5%0", 0);
        sum("5/0+1", 1);
        sum("9999*9999", 1000000);
        sum("9999*9999-1", 999999);
        sum("0-9999*9999", -1000000);
        sum("[0-9999]*9999", -1000000);
        sum("0-9999*9999-5", -1000000);
        sum("9999*9999+5", 1000000);
        sum("9999*9999/9999", 100);
        sum("n-b*[x-n]%5", 6);
    }

    private static void holds(String condition, boolean want) {
        Due.is("worth of " + condition, Due.worthOf("a:" + condition + "?1;a:0", 'a', 7, 2, 100), want ? 1 : 0);
    }

    private static void worthOfConditions() {
        holds("n=7", true);
        holds("n=8", false);
        holds("n<8", true);
        holds("n<7", false);
        holds("n>6", true);
        holds("n>7", false);
        holds("!n=7", false);
        holds("!!n=7", true);
        holds("n=7&b=3", false);
        holds("n=7|b=3", true);
        holds("n=8|b=3", false);
        holds("n=7|b=3&x=0", true);
        holds("(n=7|b=3)&x=0", false);
        holds("x=0&n=7|b=2", true);
        holds("x=0&(n=7|b=2)", false);
        holds("!n=8&b=2", true);
        holds("!n=7|b=2", true);
        holds("!(n=7|b=2)", false);
        holds("[n+b]*2=18", true);
        holds("n+b>x-92", true);
        holds("n+b>x-91", false);
    }

    private static void worthOfLabels() {
        String text = "h:n=1?5;k:9;h:b>3?6;h:n+1;h:99";
        Due.is("the first that holds", Due.worthOf(text, 'h', 1, 9, 0), 5);
        Due.is("the next that holds", Due.worthOf(text, 'h', 2, 9, 0), 6);
        Due.is("one without a condition", Due.worthOf(text, 'h', 2, 3, 0), 3);
        Due.is("another label", Due.worthOf(text, 'k', 2, 3, 0), 9);
        Due.is("a label without clauses", Due.worthOf(text, 'a', 2, 3, 0), 0);
        Due.is("none holds", Due.worthOf("h:n=1?5", 'h', 2, 3, 0), 0);
        Due.is("letters below 0", Due.worthOf("h:n-b*x", 'h', -2, -3, -4), -14);
        FigureHouse house = new FigureHouse();
        int plan = Due.plan(house, text);
        for (int label : new int[] {'q', 'n', 'b', 'x', 0, -1, 255, 'h' + 256, Integer.MIN_VALUE}) {
            Due.isThrown("no such label " + label, () -> house.worth(plan, label, 0, 0, 0));
        }
        Due.isThrown("no such plan", () -> house.worth(1, 'h', 0, 0, 0));
        Due.isThrown("no such plan", () -> house.worth(-1, 'h', 0, 0, 0));
    }
}
