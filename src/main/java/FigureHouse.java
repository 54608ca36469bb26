import java.util.ArrayList;
import java.util.Arrays;
import java.util.NoSuchElementException;

/** A house that makes tables by hand; the document (DOC.md) tells what each call answers. */
public final class FigureHouse {
    public static final int NONE = -1;

    private static final int LAST_DAY = 1000;
    private static final int LAST_X = 9999;
    private static final int MOST_AMOUNT = 1000000;
    private static final int MOST_PUT = 1000000000;

    private static final int MOST_FUNCTIONS = 10;
    private static final int MOST_PLANS = 12;
    private static final int MOST_PAGES = 12;
    private static final int MOST_SLIPS = 60;
    private static final int MOST_BLAMED = 4;
    private static final int MOST_DOUBLED = 40;
    private static final int MOST_PRESSED = 80;
    private static final int MOST_COPIES = 8;
    private static final int MOST_ERRATA = 40;
    private static final int MOST_OTHERS = 8;
    private static final int MOST_SHEETS = 8;

    private static final int TAPE_BYTES = 160;
    private static final int LINES = 40;
    private static final int HANDS = 8;
    private static final int SHEET_PLACES = 40;
    private static final int PRESS_PLACES = 13;
    private static final int MOST_ORDER = 4;
    private static final int MOST_FIGURES = 6;

    /** A line's row of columns: 0 to 4 of the differences. */
    private static final int WIDE = 5;
    /** The column that the document gives to what is copied, and to the number itself. */
    private static final int COPIED = 9;
    /** Where a row of slips keeps what is copied: no sum of order 4 or less slips there. */
    private static final int COPIED_SLOT = 4;

    private static final int ROOT = 0;
    private static final int SHARE = 1;
    private static final int SQUARE = 2;

    private static final int TO_GREATER = 0;
    private static final int TO_LESSER = 2;

    private static final int MENDED = 2;
    private static final int DOUBTED = 3;

    private static final int NOT_THERE = 1;
    private static final int NO_SUCH = 2;
    private static final int NO_PLACE = -2;
    private static final int SAME_ALREADY = -3;
    private static final long NO_BLAME = -2000000000L;

    private static final long[] TENS = {
        1L, 10L, 100L, 1000L, 10000L, 100000L, 1000000L, 10000000L, 100000000L, 1000000000L,
        10000000000L, 100000000000L, 1000000000000L
    };

    private int now;
    private int toldAs;
    private int driftUnits;
    private int pivotHours;
    private int pressSlips;
    private int doublings;
    private final int[] leftUnseen;
    private final Text tape;
    private final Reader reader;
    private final Figures figures;
    private final Search search;
    private final Planner planner;
    private final ArrayList<Curve> curves;
    private final ArrayList<Text> plans;
    private final ArrayList<Page> pages;
    private final ArrayList<Slip> slips;
    private final ArrayList<Table> copies;
    private final ArrayList<Table> others;
    private final ArrayList<Erratum> errata;
    private final ArrayList<Sheet> sheets;

    public FigureHouse() {
        now = 0;
        toldAs = NONE;
        driftUnits = 0;
        pivotHours = 10;
        pressSlips = 0;
        doublings = 0;
        leftUnseen = new int[HANDS * HANDS];
        Arrays.fill(leftUnseen, NONE);
        tape = new Text(TAPE_BYTES);
        reader = new Reader();
        figures = new Figures();
        search = new Search();
        planner = new Planner();
        curves = new ArrayList<Curve>();
        plans = new ArrayList<Text>();
        pages = new ArrayList<Page>();
        slips = new ArrayList<Slip>();
        copies = new ArrayList<Table>();
        others = new ArrayList<Table>();
        errata = new ArrayList<Erratum>();
        sheets = new ArrayList<Sheet>();
    }

    // ---- days

    public int days(int n) {
        if (!within(n, 0, LAST_DAY) || now + n > LAST_DAY) {
            return NONE;
        }
        now += n;
        return now;
    }

    public boolean as(int day) {
        if (day != NONE && !isDay(day)) {
            return false;
        }
        toldAs = day;
        return true;
    }

    public int known() {
        return toldAs == NONE ? now : toldAs;
    }

    // ---- functions

    public int function(int sort, int a, int b) {
        if (!within(sort, ROOT, SQUARE) || !within(a, 1, 99) || !within(b, 0, 99)
                || curves.size() >= MOST_FUNCTIONS) {
            return NONE;
        }
        curves.add(new Curve(sort, a, b));
        return curves.size() - 1;
    }

    public long exact(int function, int x, int places) {
        Curve curve = curveAt(function, x, places);
        return curve == null ? NONE : wholeBy(curve.quartersAt(x), unitOf(places));
    }

    public int whole(int function, int x, int places) {
        Curve curve = curveAt(function, x, places);
        if (curve == null) {
            return NONE;
        }
        return restBy(curve.quartersAt(x), unitOf(places)) == 0 ? 1 : 0;
    }

    public long nearest(int function, int x, int places) {
        Curve curve = curveAt(function, x, places);
        return curve == null ? NONE : rounded(curve.quartersAt(x), unitOf(places), TO_GREATER);
    }

    // ---- plans

    public int feed(int a, int b, int c, int d, int e) {
        int more = bytesIn(a) + bytesIn(b) + bytesIn(c) + bytesIn(d) + bytesIn(e);
        if (tape.length + more > TAPE_BYTES) {
            return NONE;
        }
        tape.addBytes(a);
        tape.addBytes(b);
        tape.addBytes(c);
        tape.addBytes(d);
        tape.addBytes(e);
        return tape.length;
    }

    public boolean end(int n) {
        if (!within(n, 0, tape.length)) {
            return false;
        }
        tape.length = n;
        return true;
    }

    public int fault() {
        return reader.faultIn(tape);
    }

    public int plan() {
        if (plans.size() >= MOST_PLANS || reader.faultIn(tape) != NONE) {
            return NONE;
        }
        plans.add(tape.twin());
        tape.length = 0;
        return plans.size() - 1;
    }

    public int worth(int plan, int label, int n, int b, int x) throws NoSuchElementException {
        Text text = planAt(plan);
        if (text == null || !isLabel(label)) {
            throw new NoSuchElementException();
        }
        return reader.worthOf(text, label, n, b, x);
    }

    // ---- pages

    public int page(int function, int first, int lines, int plan) {
        Text text = planAt(plan);
        if (!within(function, 0, curves.size() - 1) || text == null || !within(first, 1, LAST_X)
                || !within(lines, 2, LINES) || pages.size() >= MOST_PAGES) {
            return NONE;
        }
        Page made = new Page(function, first, lines);
        if (!made.followsHead(reader, text) || !made.followsLines(reader, text)) {
            return NONE;
        }
        made.reckon(curves.get(function));
        figures.begin();
        figures.make(made);
        System.arraycopy(figures.numbers, 0, made.truth, 0, LINES);
        pages.add(made);
        return pages.size() - 1;
    }

    public int paged(int page, int what) {
        Page p = pageAt(page);
        return p == null ? NONE : p.told(what);
    }

    public int lined(int page, int line, int what) {
        Page p = pageWith(page, line);
        return p == null ? NONE : p.toldOf(line, what);
    }

    public long trueOf(int page, int line) throws NoSuchElementException {
        Page p = pageWith(page, line);
        if (p == null) {
            throw new NoSuchElementException();
        }
        return p.truth[line];
    }

    public long figure(int page, int line, int column, int q) throws NoSuchElementException {
        Page p = madeWith(page, line, q);
        if (p == null || !p.hasColumn(line, column)) {
            throw new NoSuchElementException();
        }
        return column == COPIED ? figures.numbers[line] : figures.columns[line * WIDE + column];
    }

    // ---- slips

    public int slip(int page, int line, int column, int amount) {
        Page p = pageWith(page, line);
        if (p == null || !p.canSlip(line, column) || amount == 0
                || !within(amount, -MOST_AMOUNT, MOST_AMOUNT) || slips.size() >= MOST_SLIPS) {
            return NONE;
        }
        slips.add(new Slip(page, line, column, amount, now));
        p.slipped[line] = 1;
        return slips.size() - 1;
    }

    public boolean mend(int slip) {
        if (!within(slip, 0, slips.size() - 1) || slips.get(slip).mended != NONE) {
            return false;
        }
        slips.get(slip).mended = now;
        return true;
    }

    public int kind(int page, int line, int q) {
        Page p = madeWith(page, line, q);
        if (p == null) {
            return NONE;
        }
        if (wasMended(page, line, q)) {
            return MENDED;
        }
        int behind = Math.min(p.endOf(p.blockOf(line)), line + p.order + 2);
        if (figures.failsFrom(p, line, behind) > 0) {
            return DOUBTED;
        }
        return p.isMade(line) ? 1 : 0;
    }

    public long kept(int page, int line, int q) throws NoSuchElementException {
        Page p = madeWith(page, line, q);
        if (p == null) {
            throw new NoSuchElementException();
        }
        return figures.keptOf(p, line);
    }

    public long right(int page, int line) throws NoSuchElementException {
        Page p = pageWith(page, line);
        if (p == null) {
            throw new NoSuchElementException();
        }
        return p.right[line];
    }

    public int wrong(int page, int q) {
        Page p = madePage(page, q);
        if (p == null) {
            return NONE;
        }
        int number = 0;
        for (int line = 0; line < p.lines; line++) {
            if (figures.keptOf(p, line) != p.right[line]) {
                number++;
            }
        }
        return number;
    }

    // ---- how far off a line may be

    public long stray(int page, int line) throws NoSuchElementException {
        Page p = pageWith(page, line);
        if (p == null) {
            throw new NoSuchElementException();
        }
        return p.truth[line] - p.near[line];
    }

    public long bound(int page, int line) {
        Page p = pageWith(page, line);
        return p == null ? NONE : p.boundOf(line);
    }

    public boolean drift(int units) {
        if (!within(units, 0, 1000)) {
            return false;
        }
        driftUnits = units;
        return true;
    }

    public int safe(int page, int line) {
        Page p = pageWith(page, line);
        if (p == null) {
            return NONE;
        }
        if (p.carried == 0) {
            return p.isMade(line) ? 0 : 1;
        }
        long unit = ten(p.carried);
        long fromHalf = Math.abs(restBy(p.truth[line], unit) - unit / 2);
        return fromHalf >= p.boundOf(line) + driftUnits ? 1 : 0;
    }

    // ---- checks

    public int check(int page, int line, int q) {
        Page p = madeWith(page, line, q);
        if (p == null) {
            return NONE;
        }
        return figures.holds(p, line) ? 1 : 0;
    }

    public int fails(int page, int q) {
        Page p = madePage(page, q);
        return p == null ? NONE : figures.failsFrom(p, 0, p.lines);
    }

    public int unseen(int page, int q) {
        Page p = pageAt(page);
        if (p == null || !isDay(q)) {
            return NONE;
        }
        figures.begin();
        figures.make(p);
        int failsWithout = figures.failsFrom(p, 0, p.lines);
        int number = 0;
        for (int i = 0; i < slips.size(); i++) {
            Slip slip = slips.get(i);
            if (slip.page == page && slip.isKnownIn(q)
                    && failsWithout + figures.failsMoreBy(p, slip) == 0) {
                number++;
            }
        }
        return number;
    }

    public int healed(int page, int q) {
        Page p = madePage(page, q);
        if (p == null) {
            return NONE;
        }
        int number = 0;
        for (int block = 0; block < p.blocks(); block++) {
            int end = p.endOf(block);
            for (int line = firstSlipped(page, p, block, q); line < end; line++) {
                if (figures.numbers[line] == p.truth[line]) {
                    number++;
                }
            }
        }
        return number;
    }

    public int spread(int page, int line, int column) {
        Page p = pageWith(page, line);
        if (p == null || !p.canSlip(line, column)) {
            return NONE;
        }
        // All that is added to a column is of one sign, so no line behind it comes right again.
        return column == COPIED ? 1 : p.endOf(p.blockOf(line)) - line;
    }

    // ---- the fewest slips

    public int least(int page, int block, int q) {
        return isExplained(page, block, q) ? search.fewest : NONE;
    }

    public int ways(int page, int block, int q) {
        return isExplained(page, block, q) ? search.sets : NONE;
    }

    public long first(int page, int block, int q, int i, int what) {
        if (!isExplained(page, block, q) || !within(i, 0, search.fewest - 1)) {
            return NO_BLAME;
        }
        switch (what) {
            case 0: return search.firstLines[i];
            case 1: return search.firstColumns[i];
            case 2: return search.firstAmounts[i];
            default: return NO_BLAME;
        }
    }

    // ---- hands

    public int rate(int hand) {
        if (!isHand(hand)) {
            return NONE;
        }
        int made = 0;
        int slipped = 0;
        for (int i = 0; i < pages.size(); i++) {
            Page p = pages.get(i);
            for (int line = 0; line < p.lines; line++) {
                if (p.isMade(line) && p.hands[line] == hand) {
                    made++;
                    slipped += p.slipped[line];
                }
            }
        }
        return made == 0 ? 0 : slipped * 1000 / made;
    }

    public int shut(int hand, int page, int line) {
        Page p = pageWith(page, line);
        if (!isHand(hand) || p == null) {
            return NONE;
        }
        boolean maySee = (p.seers[line] >> hand & 1) == 1;
        return maySee || p.hands[line] == hand ? 0 : 1;
    }

    public boolean doubled(int one, int other, int only, int others, int both) {
        if (!isHand(one) || !isHand(other) || one == other || !within(only, 0, 1000)
                || !within(others, 0, 1000) || !within(both, 0, 1000) || doublings >= MOST_DOUBLED) {
            return false;
        }
        doublings++;
        int product = only * others;
        int unseen = product == 0 ? 0 : NONE;
        if (both > 0) {
            unseen = (product + both - 1) / both;
        }
        leftUnseen[one * HANDS + other] = unseen;
        leftUnseen[other * HANDS + one] = unseen;
        return true;
    }

    public int left(int one, int other) {
        return isHand(one) && isHand(other) ? leftUnseen[one * HANDS + other] : NONE;
    }

    // ---- the press

    public boolean set(int page) {
        Page p = madePage(page, known());
        if (p == null) {
            return false;
        }
        pressSlips -= p.pressSlips();
        p.setEmpty();
        for (int line = 0; line < p.lines; line++) {
            p.setLine(line, figures.keptOf(p, line));
        }
        return true;
    }

    public boolean press(int page, int line, int place, int figure) {
        Page p = plateWith(page, line);
        if (p == null || !within(place, 0, PRESS_PLACES - 1) || !within(figure, 0, 9)) {
            return false;
        }
        int more = p.isPressed(line, place) ? 0 : 1;
        if (pressSlips + more > MOST_PRESSED) {
            return false;
        }
        pressSlips += more;
        p.pressFigure(line, place, figure);
        return true;
    }

    public long printed(int page, int line) throws NoSuchElementException {
        Page p = plateWith(page, line);
        if (p == null) {
            throw new NoSuchElementException();
        }
        return p.printedOf(line);
    }

    public int proof(int page, int what) {
        Page p = madePage(page, known());
        if (p == null || !p.isSet() || !within(what, 0, 1)) {
            return NONE;
        }
        int number = 0;
        int first = NONE;
        for (int line = p.lines - 1; line >= 0; line--) {
            if (p.printedOf(line) != figures.keptOf(p, line)) {
                number++;
                first = line;
            }
        }
        return what == 0 ? number : first;
    }

    // ---- copies and errata

    public int copy(int page) {
        Page p = plateWith(page, 0);
        if (p == null || copies.size() >= MOST_COPIES) {
            return NONE;
        }
        Table made = new Table(page);
        for (int line = 0; line < p.lines; line++) {
            made.numbers[line] = p.printedOf(line);
        }
        copies.add(made);
        return copies.size() - 1;
    }

    public int erratum(int page, int line, long old, long anew) {
        if (pageWith(page, line) == null || errata.size() >= MOST_ERRATA) {
            return NONE;
        }
        errata.add(new Erratum(page, line, old, anew));
        return errata.size() - 1;
    }

    public int apply(int copy, int erratum) {
        if (!within(copy, 0, copies.size() - 1) || !within(erratum, 0, errata.size() - 1)) {
            return NO_SUCH;
        }
        Table table = copies.get(copy);
        Erratum change = errata.get(erratum);
        if (table.page != change.page) {
            return NO_SUCH;
        }
        if (table.numbers[change.line] != change.old) {
            return NOT_THERE;
        }
        table.numbers[change.line] = change.anew;
        return 0;
    }

    public long copied(int copy, int line) throws NoSuchElementException {
        if (!within(copy, 0, copies.size() - 1) || pageWith(copies.get(copy).page, line) == null) {
            throw new NoSuchElementException();
        }
        return copies.get(copy).numbers[line];
    }

    public int errors(int copy) {
        if (!within(copy, 0, copies.size() - 1)) {
            return NONE;
        }
        Table table = copies.get(copy);
        Page p = pageAt(table.page);
        if (p == null) {
            return NONE;
        }
        int number = 0;
        for (int line = 0; line < p.lines; line++) {
            if (table.numbers[line] != p.right[line]) {
                number++;
            }
        }
        return number;
    }

    // ---- others' tables

    public int other(int page) {
        if (pageAt(page) == null || others.size() >= MOST_OTHERS) {
            return NONE;
        }
        Table table = new Table(page);
        Arrays.fill(table.numbers, NONE);
        others.add(table);
        return others.size() - 1;
    }

    public boolean tell(int other, int line, long number) {
        if (!within(other, 0, others.size() - 1) || pageWith(others.get(other).page, line) == null) {
            return false;
        }
        others.get(other).numbers[line] = number;
        return true;
    }

    public int compare(int other, int what) {
        if (!within(other, 0, others.size() - 1) || !within(what, 0, 4)) {
            return NONE;
        }
        Table table = others.get(other);
        Page p = plateWith(table.page, 0);
        if (p == null) {
            return NONE;
        }
        int number = 0;
        for (int line = 0; line < p.lines; line++) {
            if (table.numbers[line] != NONE && countsAs(what, p, line, table.numbers[line])) {
                number++;
            }
        }
        return number;
    }

    // ---- sheets

    public int sheet(int kind) {
        if (!within(kind, 0, 2) || sheets.size() >= MOST_SHEETS) {
            return NONE;
        }
        sheets.add(new Sheet(kind));
        return sheets.size() - 1;
    }

    public boolean put(int sheet, int place, int v) {
        Sheet s = sheetAt(sheet);
        if (s == null || s.lost || !within(place, 0, SHEET_PLACES - 1) || !within(v, -MOST_PUT, MOST_PUT)) {
            return false;
        }
        s.places[place] = s.cut(v);
        return true;
    }

    public boolean lose(int sheet) {
        Sheet s = sheetAt(sheet);
        if (s == null || s.lost) {
            return false;
        }
        s.lost = true;
        return true;
    }

    public int take(int page, int line, int sheet, int place) {
        Page p = madeWith(page, line, known());
        Sheet s = sheetAt(sheet);
        if (p == null || s == null || !p.isMade(line)) {
            return NONE;
        }
        if (s.lost || !within(place, 0, SHEET_PLACES - 1)) {
            return NO_PLACE;
        }
        long off = s.places[place] - figures.numbers[line];
        if (off == 0) {
            return SAME_ALREADY;
        }
        if (off < -MOST_AMOUNT || off > MOST_AMOUNT) {
            return NONE;
        }
        return slip(page, line, COPIED, (int) off);
    }

    // ---- the best plan

    public boolean hours(int pivot) {
        if (!within(pivot, 1, 100)) {
            return false;
        }
        pivotHours = pivot;
        return true;
    }

    public int best(int function, int first, int lines, int interval, int places, int halves, int what) {
        if (!within(function, 0, curves.size() - 1) || !within(first, 1, LAST_X) || !within(lines, 2, LINES)
                || !within(interval, 1, 50) || !within(places, 0, 5) || !within(halves, 0, 2)
                || !within(what, 0, 3) || first + (lines - 1) * interval > LAST_X) {
            return NONE;
        }
        planner.reckon(curves.get(function), first, lines, interval, places, halves);
        if (!planner.findsOne(pivotHours)) {
            return NONE;
        }
        switch (what) {
            case 0: return planner.bestHours;
            case 1: return planner.bestOrder;
            case 2: return planner.bestCarried;
            default: return planner.bestSpan;
        }
    }

    public int count(int what) {
        switch (what) {
            case 0: return now;
            case 1: return curves.size();
            case 2: return plans.size();
            case 3: return pages.size();
            case 4: return slips.size();
            case 5: return slipsMended();
            case 6: return pagesSet();
            case 7: return pressSlips;
            case 8: return copies.size();
            case 9: return errata.size();
            case 10: return others.size();
            case 11: return sheets.size();
            case 12: return tape.length;
            default: return NONE;
        }
    }

    // ---- what is asked for, or null

    private boolean isDay(int q) {
        return within(q, 0, now);
    }

    private Curve curveAt(int function, int x, int places) {
        boolean asked = within(function, 0, curves.size() - 1) && within(x, 1, LAST_X)
                && within(places, 0, MOST_FIGURES);
        return asked ? curves.get(function) : null;
    }

    private Text planAt(int plan) {
        return within(plan, 0, plans.size() - 1) ? plans.get(plan) : null;
    }

    private Page pageAt(int page) {
        return within(page, 0, pages.size() - 1) ? pages.get(page) : null;
    }

    private Page pageWith(int page, int line) {
        Page p = pageAt(page);
        return p != null && p.hasLine(line) ? p : null;
    }

    private Page plateWith(int page, int line) {
        Page p = pageWith(page, line);
        return p != null && p.isSet() ? p : null;
    }

    private Sheet sheetAt(int sheet) {
        return within(sheet, 0, sheets.size() - 1) ? sheets.get(sheet) : null;
    }

    /** The page with its figures made as known in q; null without such ones. */
    private Page madePage(int page, int q) {
        Page p = pageAt(page);
        if (p == null || !isDay(q)) {
            return null;
        }
        figures.begin();
        for (int i = 0; i < slips.size(); i++) {
            Slip slip = slips.get(i);
            if (slip.page == page && slip.isKnownIn(q)) {
                figures.add(slip.line, slip.column, slip.amount);
            }
        }
        figures.make(p);
        return p;
    }

    private Page madeWith(int page, int line, int q) {
        return pageWith(page, line) == null ? null : madePage(page, q);
    }

    // ---- parts of answers

    private boolean wasMended(int page, int line, int q) {
        for (int i = 0; i < slips.size(); i++) {
            Slip slip = slips.get(i);
            if (slip.page == page && slip.line == line && slip.isMendedBy(q)) {
                return true;
            }
        }
        return false;
    }

    /** The first line of a block with a slip as known in q; the block's end without one. */
    private int firstSlipped(int page, Page p, int block, int q) {
        int first = p.endOf(block);
        for (int i = 0; i < slips.size(); i++) {
            Slip slip = slips.get(i);
            if (slip.page == page && slip.isKnownIn(q) && p.blockOf(slip.line) == block) {
                first = Math.min(first, slip.line);
            }
        }
        return first;
    }

    /** Whether a block is there as known in q, and its fewest slips are found. */
    private boolean isExplained(int page, int block, int q) {
        Page p = madePage(page, q);
        return p != null && within(block, 0, p.blocks() - 1) && search.explains(figures, p, block);
    }

    private boolean countsAs(int what, Page p, int line, long number) {
        boolean same = number == p.printedOf(line);
        boolean isRight = number == p.right[line];
        switch (what) {
            case 1: return same;
            case 2: return same && !isRight;
            case 3: return !same && isRight;
            case 4: return isRight;
            default: return true;
        }
    }

    private int slipsMended() {
        int number = 0;
        for (int i = 0; i < slips.size(); i++) {
            if (slips.get(i).mended != NONE) {
                number++;
            }
        }
        return number;
    }

    private int pagesSet() {
        int number = 0;
        for (int i = 0; i < pages.size(); i++) {
            if (pages.get(i).isSet()) {
                number++;
            }
        }
        return number;
    }

    // ---- numbers

    private static boolean within(int value, int low, int high) {
        return value >= low && value <= high;
    }

    private static boolean isHand(int hand) {
        return within(hand, 0, HANDS - 1);
    }

    private static boolean isLabel(int sign) {
        switch (sign) {
            case 'a': case 'o': case 'p': case 'c': case 'm': case 'f': case 'h': case 's': case 'k': case 't':
                return true;
            default:
                return false;
        }
    }

    private static int bytesIn(int number) {
        int bytes = 0;
        for (int shift = 24; shift >= 0; shift -= 8) {
            if ((number >>> shift & 255) != 0) {
                bytes++;
            }
        }
        return bytes;
    }

    private static long ten(int places) {
        return places < 0 || places >= TENS.length ? 1L : TENS[places];
    }

    /** One of the last of so many places, in the quarters of a millionth that Curve tells. */
    private static long unitOf(int places) {
        return 4 * ten(MOST_FIGURES - places);
    }

    /** The greatest whole number not above value by unit. */
    private static long wholeBy(long value, long unit) {
        return unit > 0 ? Math.floorDiv(value, unit) : 0;
    }

    private static long restBy(long value, long unit) {
        return unit > 0 ? Math.floorMod(value, unit) : 0;
    }

    /** The whole number nearest to value by unit; at a half the greater, the even or the lesser one. */
    private static long rounded(long value, long unit, int halves) {
        long low = wholeBy(value, unit);
        long twice = 2 * restBy(value, unit);
        if (twice < unit) {
            return low;
        }
        if (twice > unit || halves == TO_GREATER) {
            return low + 1;
        }
        return halves == TO_LESSER || (low & 1) == 0 ? low : low + 1;
    }

    /** The greatest whole number whose square is not above value (below 2 to the 62). */
    private static long rootOf(long value) {
        long rest = value;
        long root = 0;
        for (int shift = 60; shift >= 0; shift -= 2) {
            long bit = 1L << shift;
            if (rest >= root + bit) {
                rest -= root + bit;
                root = (root >> 1) + bit;
            } else {
                root >>= 1;
            }
        }
        return root;
    }

    /** In how many ways k can be taken of n (k small, n at most LINES). */
    private static long choose(int n, int k) {
        long ways = 1;
        for (int i = 1; i <= k; i++) {
            ways = ways * (n - k + i) / i;
        }
        return ways;
    }

    /** A function. */
    private static final class Curve {
        final int sort;
        final int a;
        final int b;

        Curve(int sort, int a, int b) {
            this.sort = sort;
            this.a = a;
            this.b = b;
        }

        /**
         * The function at x in quarters of a millionth. Only even numbers are exact: an odd one stands
         * for all that lies between its neighbours. As the halves of six places and fewer are even,
         * each rounding of this number is that of the function.
         */
        long quartersAt(int x) {
            if (sort == ROOT) {
                long square = 4 * ten(12) * (a * x + b);
                long root = rootOf(square);
                return 2 * root + (root * root == square ? 0 : 1);
            }
            long top = 2 * ten(6) * (sort == SHARE ? 1000 * a : x * x + a * x + b);
            long under = sort == SHARE ? x + b : 7;
            if (under <= 0) {
                return 0;
            }
            long halves = top / under;
            return 2 * halves + (halves * under == top ? 0 : 1);
        }
    }

    /** Bytes one behind the other: the tape, or a plan. */
    private static final class Text {
        final int[] bytes;
        int length;

        Text(int most) {
            bytes = new int[Math.max(0, most)];
            length = 0;
        }

        void addBytes(int number) {
            for (int shift = 24; shift >= 0; shift -= 8) {
                int next = number >>> shift & 255;
                if (next != 0 && length < bytes.length) {
                    bytes[length] = next;
                    length++;
                }
            }
        }

        Text twin() {
            Text made = new Text(length);
            System.arraycopy(bytes, 0, made.bytes, 0, length);
            made.length = length;
            return made;
        }
    }

    /** Reads a text as a plan, and reckons while it reads. */
    private static final class Reader {
        static final int BLANK = 32;
        static final int ENDED = -1;
        static final int REFUSED = -2;
        static final int DEEPEST = 6;
        static final int MOST_DIGITS = 4;
        static final long MOST = 1000000;

        Text text;
        int at;
        int refusedAt;
        long n;
        long b;
        long x;
        long sumRead;

        Reader() {
            text = new Text(0);
            open(text);
        }

        int faultIn(Text asked) {
            open(asked);
            boolean goesOn = true;
            for (int i = 0; goesOn && i <= text.length; i++) {
                if (!isLabel(nextSign())) {
                    refuse();
                }
                at++;
                demand(':');
                readsClause();
                goesOn = accepts(';');
            }
            if (nextSign() != ENDED) {
                refuse();
            }
            return refusedAt;
        }

        /** The worth of a label of a plan, which is a text without a fault. */
        int worthOf(Text plan, int label, int lineAsked, int blockAsked, int xAsked) {
            open(plan);
            n = lineAsked;
            b = blockAsked;
            x = xAsked;
            for (int i = 0; i <= text.length && nextSign() >= 0; i++) {
                boolean mine = nextSign() == label;
                at++;
                demand(':');
                if (mine && readsClause()) {
                    return (int) sumRead;
                }
                toNextClause();
            }
            return 0;
        }

        private void open(Text asked) {
            text = asked;
            at = 0;
            refusedAt = NONE;
            sumRead = 0;
        }

        private void toNextClause() {
            while (at < text.length && text.bytes[at] != ';') {
                at++;
            }
            at++;
        }

        /** Reads on behind a clause's colon; whether the clause holds (its sum is in sumRead then). */
        private boolean readsClause() {
            int start = at;
            if (!opensUnit(nextSign())) {
                sumRead = sum(0);
                if (!compares(nextSign())) {
                    return true;
                }
                // Only now it is seen that this sum begins a condition: it is read again as one.
                at = start;
            }
            boolean holds = condition(0);
            demand('?');
            sumRead = sum(0);
            return holds;
        }

        private boolean condition(int depth) {
            boolean some = false;
            boolean all = unit(depth);
            for (int i = 0; i <= text.length; i++) {
                if (accepts('&')) {
                    boolean next = unit(depth);
                    all = all && next;
                } else if (accepts('|')) {
                    some = some || all;
                    all = unit(depth);
                } else {
                    break;
                }
            }
            return some || all;
        }

        private boolean unit(int depth) {
            if (!opensUnit(nextSign())) {
                long one = sum(depth);
                int sign = demandComparing();
                long other = sum(depth);
                return compared(one, sign, other);
            }
            if (depth >= DEEPEST) {
                refuse();
                return false;
            }
            return accepts('!') ? negated(depth + 1) : parenthesised(depth + 1);
        }

        private boolean negated(int depth) {
            return !unit(depth);
        }

        private boolean parenthesised(int depth) {
            demand('(');
            boolean holds = condition(depth);
            demand(')');
            return holds;
        }

        private long sum(int depth) {
            long total = term(depth);
            for (int i = 0; i <= text.length; i++) {
                if (accepts('+')) {
                    total = cut(total + term(depth));
                } else if (accepts('-')) {
                    total = cut(total - term(depth));
                } else {
                    break;
                }
            }
            return total;
        }

        private long term(int depth) {
            long product = atom(depth);
            for (int i = 0; i <= text.length; i++) {
                if (accepts('*')) {
                    product = cut(product * atom(depth));
                } else if (accepts('/')) {
                    product = cut(quotient(product, atom(depth)));
                } else if (accepts('%')) {
                    product = cut(remainder(product, atom(depth)));
                } else {
                    break;
                }
            }
            return product;
        }

        private long atom(int depth) {
            int sign = nextSign();
            if (isDigit(sign)) {
                return number();
            }
            if (sign == '[' && depth < DEEPEST) {
                at++;
                long inside = sum(depth + 1);
                demand(']');
                return inside;
            }
            if (sign != 'n' && sign != 'b' && sign != 'x') {
                refuse();
                return 0;
            }
            at++;
            if (sign == 'n') {
                return n;
            }
            return sign == 'b' ? b : x;
        }

        private long number() {
            long value = 0;
            int digits = 0;
            while (at < text.length && isDigit(text.bytes[at])) {
                if (digits == MOST_DIGITS) {
                    refuse();
                    return 0;
                }
                value = 10 * value + (text.bytes[at] - '0');
                digits++;
                at++;
            }
            return value;
        }

        private int nextSign() {
            if (refusedAt != NONE) {
                return REFUSED;
            }
            while (at < text.length && text.bytes[at] == BLANK) {
                at++;
            }
            return at < text.length ? text.bytes[at] : ENDED;
        }

        private boolean accepts(int sign) {
            if (nextSign() != sign) {
                return false;
            }
            at++;
            return true;
        }

        private void demand(int sign) {
            if (nextSign() != sign) {
                refuse();
            }
            at++;
        }

        private int demandComparing() {
            int sign = nextSign();
            if (!compares(sign)) {
                refuse();
            }
            at++;
            return sign;
        }

        private void refuse() {
            if (refusedAt == NONE) {
                refusedAt = at < text.length ? at : text.length;
            }
        }

        private static boolean isDigit(int sign) {
            return sign >= '0' && sign <= '9';
        }

        private static boolean opensUnit(int sign) {
            return sign == '!' || sign == '(';
        }

        private static boolean compares(int sign) {
            return sign == '=' || sign == '<' || sign == '>';
        }

        private static boolean compared(long one, int sign, long other) {
            if (sign == '=') {
                return one == other;
            }
            return sign == '<' ? one < other : one > other;
        }

        private static long quotient(long one, long other) {
            return other == 0 ? 0 : one / other;
        }

        private static long remainder(long one, long other) {
            return other == 0 ? 0 : one % other;
        }

        private static long cut(long value) {
            return Math.max(-MOST, Math.min(MOST, value));
        }
    }

    /** A page: its plan's numbers, what is true and right of it, and its plate if it is set. */
    private static final class Page {
        final int function;
        final int first;
        final int lines;
        int interval;
        int order;
        int places;
        int carried;
        int span;
        int halves;
        final int[] hands;
        final int[] seers;
        final int[] checks;
        final int[] limits;
        final long[] near;
        final long[] truth;
        final long[] right;
        final int[] slipped;
        long[] plate;
        final long[] pressed;

        Page(int function, int first, int lines) {
            this.function = function;
            this.first = first;
            this.lines = lines;
            hands = new int[LINES];
            seers = new int[LINES];
            checks = new int[LINES];
            limits = new int[LINES];
            near = new long[LINES];
            truth = new long[LINES];
            right = new long[LINES];
            slipped = new int[LINES];
            pressed = new long[LINES];
            plate = null;
        }

        /** Takes what the plan says of the whole page; whether that can be followed. */
        boolean followsHead(Reader reader, Text plan) {
            interval = reader.worthOf(plan, 'a', 0, 0, 0);
            order = reader.worthOf(plan, 'o', 0, 0, 0);
            places = reader.worthOf(plan, 'p', 0, 0, 0);
            carried = reader.worthOf(plan, 'c', 0, 0, 0);
            span = reader.worthOf(plan, 'm', 0, 0, 0);
            halves = reader.worthOf(plan, 'f', 0, 0, 0);
            return within(interval, 1, 50) && within(order, 1, MOST_ORDER) && within(places, 0, 5)
                    && within(carried, 0, MOST_FIGURES - places) && within(span, order + 2, LINES)
                    && within(halves, 0, 2) && xOf(lines - 1) <= LAST_X;
        }

        /** Takes what the plan says of each line; whether that can be followed. */
        boolean followsLines(Reader reader, Text plan) {
            for (int line = 0; line < lines; line++) {
                int block = blockOf(line);
                int x = xOf(line);
                hands[line] = reader.worthOf(plan, 'h', line, block, x);
                seers[line] = reader.worthOf(plan, 's', line, block, x);
                checks[line] = reader.worthOf(plan, 'k', line, block, x);
                limits[line] = reader.worthOf(plan, 't', line, block, x);
                if (!isHand(hands[line]) || !within(checks[line], 0, 3)) {
                    return false;
                }
            }
            return true;
        }

        void reckon(Curve curve) {
            for (int line = 0; line < lines; line++) {
                long quarters = curve.quartersAt(xOf(line));
                near[line] = rounded(quarters, unitOf(places + carried), TO_GREATER);
                right[line] = rounded(quarters, unitOf(places), halves);
            }
        }

        int told(int what) {
            switch (what) {
                case 0: return function;
                case 1: return lines;
                case 2: return interval;
                case 3: return order;
                case 4: return places;
                case 5: return carried;
                case 6: return span;
                case 7: return halves;
                case 8: return blocks();
                case 9: return pivots();
                default: return NONE;
            }
        }

        int toldOf(int line, int what) {
            switch (what) {
                case 0: return xOf(line);
                case 1: return blockOf(line);
                case 2: return line - startOf(blockOf(line));
                case 3: return hands[line];
                case 4: return seers[line];
                case 5: return checks[line];
                case 6: return limits[line];
                default: return NONE;
            }
        }

        boolean hasLine(int line) {
            return within(line, 0, lines - 1);
        }

        int xOf(int line) {
            return first + line * interval;
        }

        int blocks() {
            return blockOf(lines - 1) + 1;
        }

        int blockOf(int line) {
            return span > 0 ? line / span : 0;
        }

        int startOf(int block) {
            return block * span;
        }

        int endOf(int block) {
            int full = (block + 1) * span;
            return full < lines ? full : lines;
        }

        /** The line behind the pivots of a block. */
        int madeFrom(int block) {
            return Math.min(endOf(block), startOf(block) + order + 1);
        }

        boolean isMade(int line) {
            return line >= madeFrom(blockOf(line));
        }

        int pivots() {
            int number = 0;
            for (int block = 0; block < blocks(); block++) {
                number += madeFrom(block) - startOf(block);
            }
            return number;
        }

        boolean canSlip(int line, int column) {
            return isMade(line) && (column == COPIED || within(column, 0, order - 1));
        }

        boolean hasColumn(int line, int column) {
            boolean hasAll = line - startOf(blockOf(line)) >= order;
            return column == COPIED || hasAll && within(column, 0, order);
        }

        /**
         * A made line is the polynomial through the pivots of its block: pivot j counts
         * choose(place, j) times choose(place - j - 1, order - j), with changing signs.
         */
        long boundOf(int line) {
            if (!isMade(line)) {
                return 1;
            }
            int place = line - startOf(blockOf(line));
            long times = 0;
            for (int j = 0; j <= order; j++) {
                times += choose(place, j) * choose(place - j - 1, order - j);
            }
            return (times + 1) / 2;
        }

        boolean isSet() {
            return plate != null;
        }

        void setEmpty() {
            if (plate == null) {
                plate = new long[LINES];
            }
            Arrays.fill(pressed, 0L);
        }

        void setLine(int line, long number) {
            if (plate != null && hasLine(line)) {
                plate[line] = number;
            }
        }

        boolean isPressed(int line, int place) {
            return pressedAt(line, place) != 0;
        }

        private long pressedAt(int line, int place) {
            return hasLine(line) ? pressed[line] >>> 4 * place & 15 : 0;
        }

        /** Keeps the figure and one in the four bits of its place, so that 0 says that none was told. */
        void pressFigure(int line, int place, int figure) {
            if (!hasLine(line)) {
                return;
            }
            long others = pressed[line] & ~(15L << 4 * place);
            pressed[line] = others | (long) (figure + 1) << 4 * place;
        }

        int pressSlips() {
            int number = 0;
            for (int line = 0; line < lines; line++) {
                for (int place = 0; place < PRESS_PLACES; place++) {
                    number += isPressed(line, place) ? 1 : 0;
                }
            }
            return number;
        }

        long printedOf(int line) {
            if (plate == null || !hasLine(line)) {
                return NONE;
            }
            long size = Math.abs(plate[line]);
            for (int place = 0; place < PRESS_PLACES; place++) {
                long unit = ten(place);
                if (isPressed(line, place) && unit > 0) {
                    size += (pressedAt(line, place) - 1 - size / unit % 10) * unit;
                }
            }
            return plate[line] < 0 ? -size : size;
        }
    }

    /** A slip of a line that was made. */
    private static final class Slip {
        final int page;
        final int line;
        final int column;
        final int amount;
        final int told;
        int mended;

        Slip(int page, int line, int column, int amount, int told) {
            this.page = page;
            this.line = line;
            this.column = column;
            this.amount = amount;
            this.told = told;
            mended = NONE;
        }

        boolean isMendedBy(int q) {
            return mended != NONE && mended <= q;
        }

        boolean isKnownIn(int q) {
            return told <= q && !isMendedBy(q);
        }
    }

    /** The figures of one page at a time, made anew for each call that asks for them. */
    private static final class Figures {
        final long[] numbers;
        final long[] columns;
        final long[] off;

        Figures() {
            numbers = new long[LINES];
            columns = new long[LINES * WIDE];
            off = new long[LINES * WIDE];
        }

        void begin() {
            Arrays.fill(off, 0L);
        }

        void add(int line, int column, long amount) {
            int slot = column == COPIED ? COPIED_SLOT : column;
            if (within(line, 0, LINES - 1) && within(slot, 0, WIDE - 1)) {
                off[line * WIDE + slot] += amount;
            }
        }

        void make(Page p) {
            int blocks = p.blocks();
            for (int block = 0; block < blocks; block++) {
                makeBlock(p, block);
            }
        }

        private void makeBlock(Page p, int block) {
            int madeFrom = p.madeFrom(block);
            int end = p.endOf(block);
            for (int line = p.startOf(block); line < madeFrom; line++) {
                numbers[line] = p.near[line];
            }
            if (madeFrom - p.startOf(block) > p.order) {
                for (int column = 0; column <= p.order; column++) {
                    columns[(madeFrom - 1) * WIDE + column] = difference(madeFrom - 1, column);
                }
            }
            for (int line = madeFrom; line < end; line++) {
                makeLine(line, p.order);
            }
        }

        private void makeLine(int line, int order) {
            int here = line * WIDE;
            int ahead = here - WIDE;
            if (ahead < 0 || here + WIDE > columns.length || line >= numbers.length || !within(order, 1, MOST_ORDER)) {
                return;
            }
            columns[here + order] = columns[ahead + order];
            for (int column = order - 1; column >= 0; column--) {
                columns[here + column] = columns[ahead + column] + columns[here + column + 1] + off[here + column];
            }
            numbers[line] = columns[here] + off[here + COPIED_SLOT];
        }

        /** The difference of an order of the numbers of this line and as many ahead of it. */
        long difference(int line, int order) {
            long sum = 0;
            long times = 1;
            for (int i = 0; i <= order && i <= line; i++) {
                sum += times * numbers[line - i];
                times = -times * (order - i) / (i + 1);
            }
            return sum;
        }

        long keptOf(Page p, int line) {
            return rounded(numbers[line], ten(p.carried), p.halves);
        }

        /** How many checks fail from one line on, up to the line that is the end. */
        int failsFrom(Page p, int from, int end) {
            int number = 0;
            for (int line = from; line < end; line++) {
                if (!holds(p, line)) {
                    number++;
                }
            }
            return number;
        }

        /** How many checks more fail with this slip than without; the figures stay without it. */
        int failsMoreBy(Page p, Slip slip) {
            int block = p.blockOf(slip.line);
            int start = p.startOf(block);
            int end = p.endOf(block);
            int before = failsFrom(p, start, end);
            add(slip.line, slip.column, slip.amount);
            makeBlock(p, block);
            int with = failsFrom(p, start, end);
            add(slip.line, slip.column, -slip.amount);
            makeBlock(p, block);
            return with - before;
        }

        boolean holds(Page p, int line) {
            switch (p.checks[line]) {
                case 1: return addsUp(p, line);
                case 2: return !p.isMade(line) || difference(line, p.order + 1) == 0;
                case 3: return Math.abs(numbers[line] - p.near[line]) <= Math.max(0, p.limits[line]);
                default: return true;
            }
        }

        /** Whether the number is that of the last pivot and all column 1 behind it. */
        private boolean addsUp(Page p, int line) {
            if (!p.isMade(line)) {
                return true;
            }
            int madeFrom = p.madeFrom(p.blockOf(line));
            long sum = madeFrom > 0 ? numbers[madeFrom - 1] : 0;
            for (int i = madeFrom; i <= line; i++) {
                sum += columns[i * WIDE + 1];
            }
            return numbers[line] == sum;
        }
    }

    /**
     * Finds the fewest slips of a block. A slip shows in the difference of its own line, where all slips
     * ahead of it are known already: so the first difference left over tells a slip's line and amount,
     * and only its column is open.
     */
    private static final class Search {
        final long[] rest;
        final int[] lines;
        final int[] columns;
        final long[] amounts;
        final int[] firstLines;
        final int[] firstColumns;
        final long[] firstAmounts;
        int end;
        int order;
        int fewest;
        int sets;

        Search() {
            rest = new long[LINES];
            lines = new int[MOST_BLAMED];
            columns = new int[MOST_BLAMED];
            amounts = new long[MOST_BLAMED];
            firstLines = new int[MOST_BLAMED];
            firstColumns = new int[MOST_BLAMED];
            firstAmounts = new long[MOST_BLAMED];
        }

        /** Whether there are such slips. */
        boolean explains(Figures figures, Page p, int block) {
            order = p.order;
            end = p.endOf(block);
            fewest = MOST_BLAMED + 1;
            sets = 0;
            int madeFrom = p.madeFrom(block);
            for (int line = madeFrom; line < end; line++) {
                rest[line] = figures.difference(line, order + 1);
            }
            seek(0, madeFrom);
            return fewest <= MOST_BLAMED;
        }

        /** Goes on behind so many slips; columns go upwards, so the first set of its size is FIRST. */
        private void seek(int depth, int from) {
            int line = from;
            while (line < end && rest[line] == 0) {
                line++;
            }
            if (line >= end) {
                keep(depth);
                return;
            }
            if (depth >= MOST_BLAMED || depth >= fewest) {
                return;
            }
            blame(depth, line);
        }

        /** Takes each column in turn for a slip that gives what is left over at this line. */
        private void blame(int depth, int line) {
            long amount = rest[line];
            lines[depth] = line;
            amounts[depth] = amount;
            for (int column = 0; column <= order; column++) {
                boolean copied = column == order;
                columns[depth] = copied ? COPIED : column;
                int orderLeft = copied ? order + 1 : order - column;
                addTo(line, orderLeft, -amount);
                seek(depth + 1, line + 1);
                addTo(line, orderLeft, amount);
            }
        }

        /** Adds what a slip gives to the differences: the binomials of the order that is left behind its column. */
        private void addTo(int line, int orderLeft, long amount) {
            long times = amount;
            for (int i = 0; i <= orderLeft && line + i < end; i++) {
                rest[line + i] += times;
                times = -times * (orderLeft - i) / (i + 1);
            }
        }

        private void keep(int depth) {
            if (depth > fewest) {
                return;
            }
            if (depth < fewest) {
                fewest = depth;
                sets = 0;
                for (int i = 0; i < depth && i < MOST_BLAMED; i++) {
                    firstLines[i] = lines[i];
                    firstColumns[i] = columns[i];
                    firstAmounts[i] = amounts[i];
                }
            }
            sets++;
        }
    }

    /** Finds the plan of the fewest hours with which every figure is right. */
    private static final class Planner {
        /** More than any plan can take. */
        static final int NO_HOURS = 1000000;

        final long[] right;
        final long[] near;
        final int[] reach;
        final long[] row;
        int lines;
        int places;
        int halves;
        int bestHours;
        int bestOrder;
        int bestCarried;
        int bestSpan;

        Planner() {
            right = new long[LINES];
            near = new long[LINES * (MOST_FIGURES + 1)];
            reach = new int[LINES];
            row = new long[WIDE];
        }

        void reckon(Curve curve, int first, int linesAsked, int interval, int placesAsked, int halvesAsked) {
            lines = Math.min(linesAsked, LINES);
            places = placesAsked;
            halves = halvesAsked;
            for (int line = 0; line < lines; line++) {
                long quarters = curve.quartersAt(first + line * interval);
                right[line] = rounded(quarters, unitOf(places), halves);
                for (int carried = 0; carried <= MOST_FIGURES - places; carried++) {
                    near[carried * LINES + line] = rounded(quarters, unitOf(places + carried), TO_GREATER);
                }
            }
        }

        /** Goes up through orders, carried places and blocks, so that of equal hours the first is the best. */
        boolean findsOne(int pivotHours) {
            bestHours = NO_HOURS;
            for (int order = 1; order <= MOST_ORDER; order++) {
                for (int carried = 0; carried <= MOST_FIGURES - places; carried++) {
                    Arrays.fill(reach, NONE);
                    for (int span = order + 2; span <= LINES; span++) {
                        int pivots = pivotsOf(order, span);
                        int hours = pivotHours * pivots + order * (lines - pivots) + carried * lines;
                        if (hours < bestHours && keepsAll(order, carried, span)) {
                            bestHours = hours;
                            bestOrder = order;
                            bestCarried = carried;
                            bestSpan = span;
                        }
                    }
                }
            }
            return bestHours != NO_HOURS;
        }

        private int pivotsOf(int order, int span) {
            if (span <= 0) {
                return lines;
            }
            return lines / span * (order + 1) + Math.min(lines % span, order + 1);
        }

        private boolean keepsAll(int order, int carried, int span) {
            for (int start = 0; start < lines && span > 0; start += span) {
                if (reach[start] == NONE) {
                    reach[start] = reachOf(order, carried, start);
                }
                if (reach[start] < Math.min(lines, start + span)) {
                    return false;
                }
            }
            return true;
        }

        /** The first line that is not right when a block starts here; it does not hang on where the block ends. */
        private int reachOf(int order, int carried, int start) {
            long unit = ten(carried);
            for (int line = start; line < lines; line++) {
                long number = line - start <= order ? near[carried * LINES + line] : nextMade(order);
                if (rounded(number, unit, halves) != right[line]) {
                    return line;
                }
                if (line - start <= order) {
                    takePivot(line - start, number);
                }
            }
            return lines;
        }

        /** The row holds the differences of a pivot and of all ahead of it in the block. */
        private void takePivot(int place, long number) {
            long next = number;
            for (int column = 0; column <= place && column < WIDE; column++) {
                long ahead = row[column];
                row[column] = next;
                next -= ahead;
            }
        }

        private long nextMade(int order) {
            for (int column = order - 1; column >= 0; column--) {
                row[column] += row[column + 1];
            }
            return row[0];
        }
    }

    /** Numbers line by line of a page: a copy of its plate, or a table of others. */
    private static final class Table {
        final int page;
        final long[] numbers;

        Table(int page) {
            this.page = page;
            numbers = new long[LINES];
        }
    }

    private static final class Erratum {
        final int page;
        final int line;
        final long old;
        final long anew;

        Erratum(int page, int line, long old, long anew) {
            this.page = page;
            this.line = line;
            this.old = old;
            this.anew = anew;
        }
    }

    private static final class Sheet {
        final int kind;
        final long[] places;
        boolean lost;

        Sheet(int kind) {
            this.kind = kind;
            places = new long[SHEET_PLACES];
            lost = false;
        }

        /** What a place of this sheet holds of a number that is put there. */
        long cut(int v) {
            switch (kind) {
                case 0: return (byte) v;
                case 1: return (short) v;
                default: return v;
            }
        }
    }
}
