import java.math.BigInteger;
import java.util.ArrayList;
import java.util.HashMap;
import java.util.List;
import java.util.Map;
import java.util.NoSuchElementException;
import java.util.TreeMap;

/**
 * The document once more, by other ways than the class: true numbers by Lagrange's polynomial, slips by
 * what one alone gives, the fewest slips by trying all sets, plans read into trees.
 */
final class Oracle {
    static final class Slip {
        int page, line, column, told, mended = -1;
        long amount;
        boolean knownIn(int q) { return told <= q && (mended < 0 || mended > q); }
    }

    static final class Page {
        int function, first, lines, a, o, p, c, m, f;
        int[] h, s, k, t;
        long[] plate;
        Map<Integer, Integer> pressed = new TreeMap<>();
        int x(int line) { return first + line * a; }
        int block(int line) { return line / m; }
        int start(int line) { return block(line) * m; }
        int end(int line) { return Math.min(lines, start(line) + m); }
        boolean made(int line) { return line - start(line) > o; }
        boolean has(int line) { return line >= 0 && line < lines; }
    }

    static final class Table {
        int page;
        Map<Integer, Long> numbers = new HashMap<>();
    }

    int now = 0, as = -1, drift = 0, pivotHours = 10, doublings = 0;
    String tape = "";
    final List<int[]> functions = new ArrayList<>();
    final List<PlanTree> plans = new ArrayList<>();
    final List<Page> pages = new ArrayList<>();
    final List<Slip> slips = new ArrayList<>();
    final Map<String, int[]> doubledOf = new HashMap<>();
    final List<Table> copies = new ArrayList<>(), others = new ArrayList<>();
    final List<long[]> errata = new ArrayList<>();
    final List<long[]> sheets = new ArrayList<>();
    final List<Integer> kinds = new ArrayList<>();
    final List<Boolean> lost = new ArrayList<>();

    static NoSuchElementException none() { return new NoSuchElementException(); }

    // ---- numbers

    static BigInteger big(long v) { return BigInteger.valueOf(v); }

    static BigInteger tens(int p) { return BigInteger.TEN.pow(p); }

    BigInteger[] fraction(int[] fn, int x) {
        if (fn[0] == 1) return new BigInteger[] {big(1000L * fn[1]), big(x + fn[2])};
        return new BigInteger[] {big((long) x * x + (long) fn[1] * x + fn[2]), big(7)};
    }

    /** Twice the function by ten to the places, downwards; and whether that is all. */
    BigInteger[] twice(int[] fn, int x, int places) {
        BigInteger by = tens(places).multiply(big(2));
        if (fn[0] == 0) {
            BigInteger[] r = big((long) fn[1] * x + fn[2]).multiply(by).multiply(by).sqrtAndRemainder();
            return r;
        }
        BigInteger[] f = fraction(fn, x);
        return f[0].multiply(by).divideAndRemainder(f[1]);
    }

    long floorOf(int[] fn, int x, int places) { return twice(fn, x, places)[0].shiftRight(1).longValueExact(); }

    long roundOf(int[] fn, int x, int places, int halves) {
        BigInteger[] t = twice(fn, x, places);
        long low = t[0].shiftRight(1).longValueExact();
        if (!t[0].testBit(0)) return low;
        if (t[1].signum() != 0) return low + 1;
        return atHalf(low, halves);
    }

    static long atHalf(long low, int halves) {
        if (halves == 0) return low + 1;
        if (halves == 2) return low;
        return low % 2 == 0 ? low : low + 1;
    }

    static long roundBy(long v, int c, int halves) {
        BigInteger unit = tens(c);
        BigInteger low = big(v).subtract(big(v).mod(unit)).divide(unit);
        int cmp = big(v).mod(unit).multiply(big(2)).compareTo(unit);
        if (cmp < 0) return low.longValueExact();
        return cmp > 0 ? low.longValueExact() + 1 : atHalf(low.longValueExact(), halves);
    }

    static long choose(int n, int k) {
        BigInteger r = BigInteger.ONE;
        for (int i = 0; i < k; i++) r = r.multiply(big(n - i));
        for (int i = 2; i <= k; i++) r = r.divide(big(i));
        return r.longValueExact();
    }

    /** The weight of pivot j of o + 1 at a place (it may lie ahead of the block too). */
    static BigInteger weight(int o, int j, int place) {
        BigInteger num = BigInteger.ONE, den = BigInteger.ONE;
        for (int k = 0; k <= o; k++) {
            if (k != j) {
                num = num.multiply(big(place - k));
                den = den.multiply(big(j - k));
            }
        }
        return num.divide(den);
    }

    long near(Page p, int line) { return roundOf(functions.get(p.function), p.x(line), p.p + p.c, 0); }

    long polynomial(Page p, int start, int place) {
        BigInteger sum = BigInteger.ZERO;
        for (int j = 0; j <= p.o; j++) sum = sum.add(weight(p.o, j, place).multiply(big(near(p, start + j))));
        return sum.longValueExact();
    }

    long truth(Page p, int line) {
        return p.made(line) ? polynomial(p, p.start(line), line - p.start(line)) : near(p, line);
    }

    long column(Page p, int line, int column, List<Slip> known) {
        long sum = 0;
        for (int k = 0; k <= column; k++) {
            long v = polynomial(p, p.start(line), line - k - p.start(line)) * choose(column, k);
            sum += k % 2 == 0 ? v : -v;
        }
        for (Slip s : known) {
            int far = line - s.line;
            if (s.column == 9 || s.column < column || far < 0 || p.block(s.line) != p.block(line)) continue;
            sum += s.amount * choose(far + s.column - column, s.column - column);
        }
        return sum;
    }

    long number(Page p, int line, List<Slip> known) {
        long sum = p.made(line) ? column(p, line, 0, known) : near(p, line);
        for (Slip s : known) if (s.line == line && s.column == 9) sum += s.amount;
        return sum;
    }

    List<Slip> known(int page, int q) {
        List<Slip> r = new ArrayList<>();
        for (Slip s : slips) if (s.page == page && s.knownIn(q)) r.add(s);
        return r;
    }

    long kept(Page p, int line, List<Slip> known) { return roundBy(number(p, line, known), p.c, p.f); }

    long right(Page p, int line) { return roundOf(functions.get(p.function), p.x(line), p.p, p.f); }

    boolean holds(Page p, int line, List<Slip> known) {
        int start = p.start(line);
        if (p.k[line] == 1) {
            if (!p.made(line)) return true;
            long sum = 0;
            for (int i = start + 1; i <= line; i++) {
                sum += p.made(i) ? column(p, i, 1, known) : near(p, i) - near(p, i - 1);
            }
            return number(p, line, known) - number(p, start, known) == sum;
        }
        if (p.k[line] == 2) {
            if (line - start < p.o + 1) return true;
            return difference(p, line, known) == 0;
        }
        if (p.k[line] == 3) return Math.abs(number(p, line, known) - near(p, line)) <= Math.max(0, p.t[line]);
        return true;
    }

    long difference(Page p, int line, List<Slip> known) {
        long[] row = new long[p.o + 2];
        for (int i = 0; i < row.length; i++) row[i] = number(p, line - p.o - 1 + i, known);
        for (int n = row.length - 1; n > 0; n--) for (int i = 0; i < n; i++) row[i] = row[i + 1] - row[i];
        return row[0];
    }

    int failing(Page p, List<Slip> known) {
        int n = 0;
        for (int i = 0; i < p.lines; i++) if (!holds(p, i, known)) n++;
        return n;
    }

    boolean isPage(int page) { return page >= 0 && page < pages.size(); }

    boolean isLine(int page, int line) { return isPage(page) && pages.get(page).has(line); }

    boolean isDay(int q) { return q >= 0 && q <= now; }

    boolean isSet(int page) { return isPage(page) && pages.get(page).plate != null; }

    boolean isHand(int h) { return h >= 0 && h <= 7; }

    // ---- the face

    int days(int n) {
        if (n < 0 || n > 1000 || now + n > 1000) return -1;
        return now += n;
    }

    boolean as(int day) {
        if (day != -1 && !isDay(day)) return false;
        as = day;
        return true;
    }

    int known() { return as < 0 ? now : as; }

    int function(int sort, int a, int b) {
        if (sort < 0 || sort > 2 || a < 1 || a > 99 || b < 0 || b > 99 || functions.size() == 10) return -1;
        functions.add(new int[] {sort, a, b});
        return functions.size() - 1;
    }

    boolean asks(int function, int x, int places) {
        return function >= 0 && function < functions.size() && x >= 1 && x <= 9999 && places >= 0 && places <= 6;
    }

    long exact(int function, int x, int places) {
        return asks(function, x, places) ? floorOf(functions.get(function), x, places) : -1;
    }

    int whole(int function, int x, int places) {
        if (!asks(function, x, places)) return -1;
        BigInteger[] t = twice(functions.get(function), x, places);
        return t[1].signum() == 0 && !t[0].testBit(0) ? 1 : 0;
    }

    long nearest(int function, int x, int places) {
        return asks(function, x, places) ? roundOf(functions.get(function), x, places, 0) : -1;
    }

    int feed(int a, int b, int c, int d, int e) {
        StringBuilder more = new StringBuilder(tape);
        for (int v : new int[] {a, b, c, d, e}) {
            for (byte one : java.nio.ByteBuffer.allocate(4).putInt(v).array()) {
                if (one != 0) more.append((char) (one & 255));
            }
        }
        if (more.length() > 160) return -1;
        tape = more.toString();
        return tape.length();
    }

    boolean end(int n) {
        if (n < 0 || n > tape.length()) return false;
        tape = tape.substring(0, n);
        return true;
    }

    int fault() { return PlanTree.faultOf(tape); }

    int plan() {
        if (fault() != -1 || plans.size() == 12) return -1;
        plans.add(new PlanTree(tape));
        tape = "";
        return plans.size() - 1;
    }

    int worth(int plan, int label, int n, int b, int x) {
        if (plan < 0 || plan >= plans.size() || label < 1 || "aopcmfhskt".indexOf(label) < 0) throw none();
        return (int) plans.get(plan).worth((char) label, n, b, x);
    }

    int page(int function, int first, int lines, int plan) {
        if (function < 0 || function >= functions.size() || plan < 0 || plan >= plans.size() || first < 1
                || first > 9999 || lines < 2 || lines > 40 || pages.size() == 12) return -1;
        PlanTree t = plans.get(plan);
        Page p = new Page();
        p.function = function;
        p.first = first;
        p.lines = lines;
        p.a = (int) t.worth('a', 0, 0, 0);
        p.o = (int) t.worth('o', 0, 0, 0);
        p.p = (int) t.worth('p', 0, 0, 0);
        p.c = (int) t.worth('c', 0, 0, 0);
        p.m = (int) t.worth('m', 0, 0, 0);
        p.f = (int) t.worth('f', 0, 0, 0);
        if (p.a < 1 || p.a > 50 || p.o < 1 || p.o > 4 || p.p < 0 || p.p > 5 || p.c < 0 || p.p + p.c > 6
                || p.m < p.o + 2 || p.m > 40 || p.f < 0 || p.f > 2 || p.x(lines - 1) > 9999) return -1;
        p.h = new int[lines];
        p.s = new int[lines];
        p.k = new int[lines];
        p.t = new int[lines];
        for (int i = 0; i < lines; i++) {
            p.h[i] = (int) t.worth('h', i, p.block(i), p.x(i));
            p.s[i] = (int) t.worth('s', i, p.block(i), p.x(i));
            p.k[i] = (int) t.worth('k', i, p.block(i), p.x(i));
            p.t[i] = (int) t.worth('t', i, p.block(i), p.x(i));
            if (!isHand(p.h[i]) || p.k[i] < 0 || p.k[i] > 3) return -1;
        }
        pages.add(p);
        return pages.size() - 1;
    }

    int paged(int page, int what) {
        if (!isPage(page) || what < 0 || what > 9) return -1;
        Page p = pages.get(page);
        int pivots = 0;
        for (int i = 0; i < p.lines; i++) if (!p.made(i)) pivots++;
        return new int[] {p.function, p.lines, p.a, p.o, p.p, p.c, p.m, p.f, (p.lines + p.m - 1) / p.m, pivots}[what];
    }

    int lined(int page, int line, int what) {
        if (!isLine(page, line) || what < 0 || what > 6) return -1;
        Page p = pages.get(page);
        return new int[] {p.x(line), p.block(line), line % p.m, p.h[line], p.s[line], p.k[line], p.t[line]}[what];
    }

    long trueOf(int page, int line) {
        if (!isLine(page, line)) throw none();
        return truth(pages.get(page), line);
    }

    long figure(int page, int line, int column, int q) {
        if (!isLine(page, line) || !isDay(q)) throw none();
        Page p = pages.get(page);
        if (column == 9) return number(p, line, known(page, q));
        if (column < 0 || column > p.o || line - p.start(line) < p.o) throw none();
        return column(p, line, column, known(page, q));
    }

    boolean slippery(int page, int line, int column) {
        return isLine(page, line) && pages.get(page).made(line)
                && (column == 9 || column >= 0 && column < pages.get(page).o);
    }

    int slip(int page, int line, int column, int amount) {
        if (!slippery(page, line, column) || amount == 0 || amount < -1000000 || amount > 1000000
                || slips.size() == 60) return -1;
        Slip s = new Slip();
        s.page = page;
        s.line = line;
        s.column = column;
        s.amount = amount;
        s.told = now;
        slips.add(s);
        return slips.size() - 1;
    }

    boolean mend(int slip) {
        if (slip < 0 || slip >= slips.size() || slips.get(slip).mended >= 0) return false;
        slips.get(slip).mended = now;
        return true;
    }

    int kind(int page, int line, int q) {
        if (!isLine(page, line) || !isDay(q)) return -1;
        Page p = pages.get(page);
        for (Slip s : slips) if (s.page == page && s.line == line && s.mended >= 0 && s.mended <= q) return 2;
        for (int i = line; i <= line + p.o + 1; i++) {
            if (p.has(i) && p.block(i) == p.block(line) && !holds(p, i, known(page, q))) return 3;
        }
        return p.made(line) ? 1 : 0;
    }

    long kept(int page, int line, int q) {
        if (!isLine(page, line) || !isDay(q)) throw none();
        return kept(pages.get(page), line, known(page, q));
    }

    long right(int page, int line) {
        if (!isLine(page, line)) throw none();
        return right(pages.get(page), line);
    }

    int wrong(int page, int q) {
        if (!isPage(page) || !isDay(q)) return -1;
        Page p = pages.get(page);
        int n = 0;
        for (int i = 0; i < p.lines; i++) if (kept(p, i, known(page, q)) != right(p, i)) n++;
        return n;
    }

    long stray(int page, int line) {
        if (!isLine(page, line)) throw none();
        return truth(pages.get(page), line) - near(pages.get(page), line);
    }

    long bound(int page, int line) {
        if (!isLine(page, line)) return -1;
        Page p = pages.get(page);
        if (!p.made(line)) return 1;
        BigInteger sum = BigInteger.ZERO;
        for (int j = 0; j <= p.o; j++) sum = sum.add(weight(p.o, j, line - p.start(line)).abs());
        return sum.add(BigInteger.ONE).shiftRight(1).longValueExact();
    }

    boolean drift(int units) {
        if (units < 0 || units > 1000) return false;
        drift = units;
        return true;
    }

    int safe(int page, int line) {
        if (!isLine(page, line)) return -1;
        Page p = pages.get(page);
        if (p.c == 0) return p.made(line) ? 0 : 1;
        BigInteger t = big(truth(p, line)), unit = tens(p.c), half = unit.shiftRight(1);
        BigInteger low = t.subtract(half).subtract(t.subtract(half).mod(unit)).add(half);
        BigInteger d = t.subtract(low).min(low.add(unit).subtract(t));
        return d.compareTo(big(bound(page, line) + drift)) < 0 ? 0 : 1;
    }

    int check(int page, int line, int q) {
        if (!isLine(page, line) || !isDay(q)) return -1;
        return holds(pages.get(page), line, known(page, q)) ? 1 : 0;
    }

    int fails(int page, int q) {
        if (!isPage(page) || !isDay(q)) return -1;
        return failing(pages.get(page), known(page, q));
    }

    int unseen(int page, int q) {
        if (!isPage(page) || !isDay(q)) return -1;
        int n = 0;
        for (Slip s : known(page, q)) if (failing(pages.get(page), List.of(s)) == 0) n++;
        return n;
    }

    int healed(int page, int q) {
        if (!isPage(page) || !isDay(q)) return -1;
        Page p = pages.get(page);
        int n = 0;
        for (int i = 0; i < p.lines; i++) {
            boolean ahead = false;
            for (Slip s : known(page, q)) ahead |= s.line <= i && p.block(s.line) == p.block(i);
            if (p.made(i) && ahead && number(p, i, known(page, q)) == truth(p, i)) n++;
        }
        return n;
    }

    int spread(int page, int line, int column) {
        if (!slippery(page, line, column)) return -1;
        Page p = pages.get(page);
        Slip s = new Slip();
        s.page = page;
        s.line = line;
        s.column = column;
        s.amount = 1;
        int n = 0;
        for (int i = 0; i < p.lines; i++) if (number(p, i, List.of(s)) != truth(p, i)) n++;
        return n;
    }

    // ---- the fewest slips, by trying all

    /** All sets of the fewest slips; null for none or no such ones. A slip is line, column, amount. */
    List<long[][]> blamed(int page, int block, int q) {
        if (!isPage(page) || !isDay(q) || block < 0) return null;
        Page p = pages.get(page);
        if ((long) block * p.m >= p.lines) return null;
        List<Integer> made = new ArrayList<>();
        for (int i = 0; i < p.lines; i++) if (p.block(i) == block && p.made(i)) made.add(i);
        long[] want = new long[p.lines];
        for (int i : made) want[i] = difference(p, i, known(page, q));
        for (int size = 0; size <= 4; size++) {
            List<long[][]> found = new ArrayList<>();
            tryAll(p, made, want, 0, new ArrayList<>(), size, found);
            if (!found.isEmpty()) return found;
        }
        return null;
    }

    void tryAll(Page p, List<Integer> made, long[] want, int from, List<long[]> had, int size, List<long[][]> found) {
        if (had.size() == size) {
            for (int i : made) if (want[i] != given(p, i, had)) return;
            found.add(had.toArray(new long[0][]));
            return;
        }
        for (int at = from; at < made.size(); at++) {
            int line = made.get(at);
            long amount = want[line] - given(p, line, had);
            if (amount == 0) continue;
            for (int column = 0; column <= p.o; column++) {
                had.add(new long[] {line, column == p.o ? 9 : column, amount});
                tryAll(p, made, want, at + 1, had, size, found);
                had.remove(had.size() - 1);
            }
        }
    }

    /** The difference of order o + 1 that these slips alone give at a line. */
    long given(Page p, int line, List<long[]> had) {
        long sum = 0;
        for (long[] s : had) {
            for (int k = 0; k <= p.o + 1; k++) {
                int far = line - k - (int) s[0];
                if (far < 0) continue;
                long number = s[1] == 9 ? (far == 0 ? s[2] : 0) : s[2] * choose(far + (int) s[1], (int) s[1]);
                sum += (k % 2 == 0 ? 1 : -1) * choose(p.o + 1, k) * number;
            }
        }
        return sum;
    }

    int least(int page, int block, int q) {
        List<long[][]> r = blamed(page, block, q);
        return r == null ? -1 : r.get(0).length;
    }

    int ways(int page, int block, int q) {
        List<long[][]> r = blamed(page, block, q);
        return r == null ? -1 : r.size();
    }

    long first(int page, int block, int q, int i, int what) {
        List<long[][]> r = blamed(page, block, q);
        if (r == null) return -2000000000L;
        long[][] best = null;
        for (long[][] set : r) if (best == null || isAhead(set, best)) best = set;
        return i < 0 || i >= best.length || what < 0 || what > 2 ? -2000000000L : best[i][what];
    }

    static boolean isAhead(long[][] one, long[][] other) {
        for (int i = 0; i < one.length; i++) {
            if (one[i][0] != other[i][0]) throw new IllegalStateException("sets differ by lines first");
            if (one[i][1] != other[i][1]) return one[i][1] < other[i][1];
        }
        return false;
    }

    // ---- hands

    int rate(int hand) {
        if (!isHand(hand)) return -1;
        int made = 0, slipped = 0;
        for (int n = 0; n < pages.size(); n++) {
            Page p = pages.get(n);
            for (int i = 0; i < p.lines; i++) {
                if (!p.made(i) || p.h[i] != hand) continue;
                made++;
                boolean any = false;
                for (Slip s : slips) any |= s.page == n && s.line == i;
                if (any) slipped++;
            }
        }
        return made == 0 ? 0 : 1000 * slipped / made;
    }

    int shut(int hand, int page, int line) {
        if (!isHand(hand) || !isLine(page, line)) return -1;
        Page p = pages.get(page);
        return (p.s[line] & 1 << hand) == 0 && p.h[line] != hand ? 1 : 0;
    }

    boolean doubled(int one, int other, int only, int others, int both) {
        if (!isHand(one) || !isHand(other) || one == other || only < 0 || only > 1000 || others < 0
                || others > 1000 || both < 0 || both > 1000 || doublings == 40) return false;
        doublings++;
        doubledOf.put(Math.min(one, other) + " " + Math.max(one, other), new int[] {only, others, both});
        return true;
    }

    int left(int one, int other) {
        int[] d = doubledOf.get(Math.min(one, other) + " " + Math.max(one, other));
        if (d == null) return -1;
        if (d[0] * d[1] == 0) return 0;
        return d[2] == 0 ? -1 : (int) Math.ceil((double) d[0] * d[1] / d[2]);
    }

    // ---- plates and copies

    boolean set(int page) {
        if (!isPage(page)) return false;
        Page p = pages.get(page);
        p.plate = new long[p.lines];
        p.pressed.clear();
        for (int i = 0; i < p.lines; i++) p.plate[i] = kept(p, i, known(page, known()));
        return true;
    }

    int pressSlips() {
        int n = 0;
        for (Page p : pages) n += p.pressed.size();
        return n;
    }

    boolean press(int page, int line, int place, int figure) {
        if (!isLine(page, line) || !isSet(page) || place < 0 || place > 12 || figure < 0 || figure > 9) return false;
        Map<Integer, Integer> pressed = pages.get(page).pressed;
        if (!pressed.containsKey(line * 13 + place) && pressSlips() == 80) return false;
        pressed.put(line * 13 + place, figure);
        return true;
    }

    long printed(Page p, int line) {
        StringBuilder size = new StringBuilder(String.valueOf(Math.abs(p.plate[line]))).reverse();
        for (int place = 0; place < 13; place++) {
            Integer figure = p.pressed.get(line * 13 + place);
            if (figure == null) continue;
            while (size.length() <= place) size.append('0');
            size.setCharAt(place, (char) ('0' + figure));
        }
        long v = Long.parseLong(size.reverse().toString());
        return p.plate[line] < 0 ? -v : v;
    }

    long printed(int page, int line) {
        if (!isLine(page, line) || !isSet(page)) throw none();
        return printed(pages.get(page), line);
    }

    int proof(int page, int what) {
        if (!isSet(page) || what < 0 || what > 1) return -1;
        Page p = pages.get(page);
        int n = 0, first = -1;
        for (int i = 0; i < p.lines; i++) {
            if (printed(p, i) != kept(p, i, known(page, known()))) {
                n++;
                if (first < 0) first = i;
            }
        }
        return what == 0 ? n : first;
    }

    int copy(int page) {
        if (!isSet(page) || copies.size() == 8) return -1;
        Table t = new Table();
        t.page = page;
        for (int i = 0; i < pages.get(page).lines; i++) t.numbers.put(i, printed(page, i));
        copies.add(t);
        return copies.size() - 1;
    }

    int erratum(int page, int line, long old, long anew) {
        if (!isLine(page, line) || errata.size() == 40) return -1;
        errata.add(new long[] {page, line, old, anew});
        return errata.size() - 1;
    }

    int apply(int copy, int erratum) {
        if (copy < 0 || copy >= copies.size() || erratum < 0 || erratum >= errata.size()) return 2;
        Table t = copies.get(copy);
        long[] e = errata.get(erratum);
        if (t.page != e[0]) return 2;
        if (t.numbers.get((int) e[1]) != e[2]) return 1;
        t.numbers.put((int) e[1], e[3]);
        return 0;
    }

    long copied(int copy, int line) {
        if (copy < 0 || copy >= copies.size() || !copies.get(copy).numbers.containsKey(line)) throw none();
        return copies.get(copy).numbers.get(line);
    }

    int errors(int copy) {
        if (copy < 0 || copy >= copies.size()) return -1;
        int n = 0;
        Table t = copies.get(copy);
        for (int i : t.numbers.keySet()) if (t.numbers.get(i) != right(pages.get(t.page), i)) n++;
        return n;
    }

    int other(int page) {
        if (!isPage(page) || others.size() == 8) return -1;
        Table t = new Table();
        t.page = page;
        others.add(t);
        return others.size() - 1;
    }

    boolean tell(int other, int line, long number) {
        if (other < 0 || other >= others.size() || !isLine(others.get(other).page, line)) return false;
        if (number == -1) others.get(other).numbers.remove(line);
        else others.get(other).numbers.put(line, number);
        return true;
    }

    int compare(int other, int what) {
        if (other < 0 || other >= others.size() || what < 0 || what > 4) return -1;
        Table t = others.get(other);
        if (!isSet(t.page)) return -1;
        Page p = pages.get(t.page);
        int[] n = new int[5];
        for (Map.Entry<Integer, Long> e : t.numbers.entrySet()) {
            long told = e.getValue(), printed = printed(p, e.getKey()), right = right(p, e.getKey());
            n[0]++;
            if (told == printed) n[1]++;
            if (told == printed && told != right) n[2]++;
            if (told == right && printed != right) n[3]++;
            if (told == right) n[4]++;
        }
        return n[what];
    }

    // ---- sheets

    int sheet(int kind) {
        if (kind < 0 || kind > 2 || sheets.size() == 8) return -1;
        sheets.add(new long[40]);
        kinds.add(kind);
        lost.add(false);
        return sheets.size() - 1;
    }

    boolean put(int sheet, int place, int v) {
        if (sheet < 0 || sheet >= sheets.size() || lost.get(sheet) || place < 0 || place > 39
                || v < -1000000000 || v > 1000000000) return false;
        int bits = kinds.get(sheet) == 0 ? 8 : kinds.get(sheet) == 1 ? 16 : 32;
        sheets.get(sheet)[place] = (long) v << 64 - bits >> 64 - bits;
        return true;
    }

    boolean lose(int sheet) {
        if (sheet < 0 || sheet >= sheets.size() || lost.get(sheet)) return false;
        lost.set(sheet, true);
        return true;
    }

    int take(int page, int line, int sheet, int place) {
        if (!slippery(page, line, 9) || sheet < 0 || sheet >= sheets.size()) return -1;
        if (lost.get(sheet) || place < 0 || place > 39) return -2;
        long off = sheets.get(sheet)[place] - number(pages.get(page), line, known(page, known()));
        if (off == 0) return -3;
        return Math.abs(off) > 1000000 ? -1 : slip(page, line, 9, (int) off);
    }

    // ---- best

    boolean hours(int pivot) {
        if (pivot < 1 || pivot > 100) return false;
        pivotHours = pivot;
        return true;
    }

    int best(int function, int first, int lines, int interval, int places, int halves, int what) {
        if (function < 0 || function >= functions.size() || first < 1 || first > 9999 || lines < 2 || lines > 40
                || interval < 1 || interval > 50 || places < 0 || places > 5 || halves < 0 || halves > 2
                || what < 0 || what > 3 || first + (lines - 1) * interval > 9999) return -1;
        int[] fn = functions.get(function);
        long[] right = new long[lines];
        long[][] near = new long[7][lines];
        for (int i = 0; i < lines; i++) {
            right[i] = roundOf(fn, first + i * interval, places, halves);
            for (int c = 0; c + places <= 6; c++) near[c][i] = roundOf(fn, first + i * interval, places + c, 0);
        }
        int[] best = null;
        for (int o = 1; o <= 4; o++) {
            for (int c = 0; c + places <= 6; c++) {
                for (int m = o + 2; m <= 40; m++) {
                    int hours = c * lines;
                    boolean keeps = true;
                    for (int i = 0; i < lines && keeps; i++) {
                        int start = i / m * m;
                        boolean made = i - start > o;
                        hours += made ? o : pivotHours;
                        BigInteger v = BigInteger.ZERO;
                        for (int j = 0; made && j <= o; j++) v = v.add(weight(o, j, i - start).multiply(big(near[c][start + j])));
                        keeps = roundBy(made ? v.longValueExact() : near[c][i], c, halves) == right[i];
                    }
                    if (keeps && (best == null || hours < best[0])) best = new int[] {hours, o, c, m};
                }
            }
        }
        return best == null ? -1 : best[what];
    }

    int count(int what) {
        int mended = 0, set = 0;
        for (Slip s : slips) if (s.mended >= 0) mended++;
        for (Page p : pages) if (p.plate != null) set++;
        int[] all = {now, functions.size(), plans.size(), pages.size(), slips.size(), mended, set, pressSlips(),
            copies.size(), errata.size(), others.size(), sheets.size(), tape.length()};
        return what < 0 || what >= all.length ? -1 : all[what];
    }
}
