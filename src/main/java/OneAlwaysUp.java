import java.util.Arrays;

/** Three bridges, of which just one is up in each minute of a day, and those who wait at them. */
public final class OneAlwaysUp {
    public static final int NONE = -1, BAD = -2, STATE = -3, FULL = -4;
    public static final long NO = -4611686018427387904L;

    private static final int NOTHING = -11, OUTSIDE = -12, UNLIKE = -13, NEGATIVE = -14;
    private static final int BRIDGES = 3, MINUTES = 24, EACH = 4, ALL = 8;
    /** Minutes in which one can be through, 24 with them: in none. */
    private static final int ENDS = MINUTES + 1;
    private static final int TAPE = 160, TEXTS = 6, OPEN = 5, DIGITS = 4;
    private static final int SHEETS = 4, CELLS = 40, MISSING = -1;
    private static final int MASTER = 0, TIDE = 1, MARKET = 2, CALL = 3, BEST = 4, LAZY = 5;
    /** For each KIND the one that it is under. */
    private static final int[] OVER = {NONE, MASTER, MASTER, TIDE, MARKET, TIDE};
    private static final String FIRST_RULE = "ship waited * price ; cart waited * price ; change 1 ;";

    private final Day day = new Day();
    private final Day kept = new Day();
    private boolean isKept = false;
    private final int[] tape = new int[TAPE];
    private int taped = 0;
    private final Text[] texts = new Text[TEXTS];
    private int textCount = 0;
    private final Reader reader = new Reader();
    private final Sheet[] sheets = new Sheet[SHEETS];
    private final Costs costs = new Costs(day, texts);
    private final Search search = new Search(day, costs);
    private final Helm helm = new Helm(day);
    /** A plan that is only tried. */
    private final int[] trial = new int[MINUTES];

    public OneAlwaysUp() {
        for (int i = 0; i < TEXTS; i++) {
            texts[i] = new Text();
        }
        for (int i = 0; i < SHEETS; i++) {
            sheets[i] = new Sheet();
        }
        for (int i = 0; i < FIRST_RULE.length() && i < TAPE; i++) {
            tape[i] = FIRST_RULE.charAt(i);
            taped = i + 1;
        }
        takeTape();
    }

    // ---- ships, carts, masters

    public int come(int sort, int what, int price) {
        if (!isSort(sort) || what < 0 || !isBridge(what / 100) || !isMinute(what % 100) || !isDigit(price)) {
            return BAD;
        }
        int number = day.counts[sort];
        if (number >= EACH) {
            return FULL;
        }
        int i = sort * EACH + number;
        day.bridges[i] = what / 100;
        day.froms[i] = what % 100;
        day.prices[i] = price;
        day.counts[sort] = number + 1;
        forget();
        return number;
    }

    public int set(int sort, int one, int what, int v) {
        if (!isOne(sort, one)) {
            return BAD;
        }
        int i = sort * EACH + one;
        if (what == 0 && isBridge(v)) {
            return changed(day.bridges, i, v);
        }
        if (what == 1 && isMinute(v)) {
            return changed(day.froms, i, v);
        }
        if (what == 2 && isDigit(v)) {
            return changed(day.prices, i, v);
        }
        return BAD;
    }

    public int law(int what, int of, int v) {
        if (what == 0 && v >= 1 && v <= 4) {
            int was = day.hold;
            day.hold = v;
            forget();
            return was;
        }
        if (what == 1 && v >= 1 && v <= 9) {
            int was = day.walk;
            day.walk = v;
            return was;
        }
        if (what == 2 && isMaster(of) && isDigit(v)) {
            int was = day.numbers[of];
            day.numbers[of] = v;
            return was;
        }
        return BAD;
    }

    public int told(int sort, int one, int what) {
        if (!isOne(sort, one)) {
            return BAD;
        }
        int i = sort * EACH + one;
        int minute = day.through(i, day.plan);
        switch (what) {
            case 0: return day.bridges[i];
            case 1: return day.froms[i];
            case 2: return day.prices[i];
            case 3: return minute < MINUTES ? minute : NONE;
            case 4: return minute - day.froms[i];
            case 5: return costs.ofOne(i, minute);
            default: return BAD;
        }
    }

    public int master(int kind, int number) {
        if (!isKind(kind) || !isDigit(number)) {
            return BAD;
        }
        int one = day.masters;
        if (one >= EACH) {
            return FULL;
        }
        day.kinds[one] = kind;
        day.numbers[one] = number;
        day.masters = one + 1;
        return one;
    }

    // ---- texts

    public int feed(int letter) {
        if (letter < 0 || letter > 255) {
            return BAD;
        }
        if (taped >= TAPE) {
            return FULL;
        }
        tape[taped] = letter;
        taped++;
        return taped;
    }

    public int text() {
        return takeTape();
    }

    public int force(int text) {
        if (text < 0 || text >= textCount) {
            return BAD;
        }
        int was = day.rule;
        day.rule = text;
        forget();
        return was;
    }

    // ---- the plan

    public int up(int minute, int bridge) {
        if (!isMinute(minute) || !isBridge(bridge)) {
            return BAD;
        }
        int was = day.plan[minute];
        day.plan[minute] = bridge;
        return was;
    }

    public int at(int minute) {
        return isMinute(minute) ? day.plan[minute] : BAD;
    }

    public int plan(int what) {
        switch (what) {
            case 0: return costs.ofRow(day.plan);
            case 1: return changes(day.plan);
            case 2: return firstUnlawful(day.plan, MINUTES) == NONE ? 1 : 0;
            case 3: return day.throughCount(day.plan);
            default: return BAD;
        }
    }

    public int least(int what) {
        if (what < 0 || what > MINUTES + 1) {
            return BAD;
        }
        search.findLeast();
        if (what == 0) {
            return search.leastCost;
        }
        return what == 1 ? changes(search.leastRow) : search.leastRow[what - 2];
    }

    public int lay() {
        search.findLeast();
        System.arraycopy(search.leastRow, 0, day.plan, 0, MINUTES);
        return search.leastCost;
    }

    public int fewest() {
        return search.fewestChanges();
    }

    public int run(int master, int minute) {
        if (!isMaster(master) || minute != NONE && !isMinute(minute)) {
            return BAD;
        }
        helm.steer(master);
        return minute == NONE ? costs.ofRow(helm.row) : helm.row[minute];
    }

    public int follow(int master) {
        if (!isMaster(master)) {
            return BAD;
        }
        helm.steer(master);
        System.arraycopy(helm.row, 0, day.plan, 0, MINUTES);
        return costs.ofRow(day.plan);
    }

    public int way(int cart, int what) {
        if (!isOne(1, cart) || what < 0 || what > 1) {
            return BAD;
        }
        int i = EACH + cart;
        int soonest = MINUTES;
        int bridge = NONE;
        for (int b = 0; b < BRIDGES; b++) {
            int minute = firstDown(b, day.froms[i] + day.walk * Math.abs(b - day.bridges[i]));
            if (minute < soonest) {
                soonest = minute;
                bridge = b;
            }
        }
        if (bridge == NONE) {
            return NONE;
        }
        return what == 0 ? soonest : bridge;
    }

    public int fourth(int bridge) {
        if (!isBridge(bridge)) {
            return BAD;
        }
        int less = 0;
        for (int i = EACH; i < ALL; i++) {
            if (day.isThere(i) && day.bridges[i] == bridge) {
                less += costs.ofOne(i, day.through(i, day.plan)) - costs.ofOne(i, day.froms[i]);
            }
        }
        return less;
    }

    public int late(int n) {
        if (n < 0 || n > MINUTES) {
            return BAD;
        }
        int bits = 0;
        for (int i = 0; i < ALL; i++) {
            if (day.isThere(i) && day.through(i, day.plan) - day.froms[i] > n) {
                bits |= 1 << i;
            }
        }
        return bits;
    }

    public int blame(int what) {
        if (what < 0 || what > 2) {
            return BAD;
        }
        int cost = costs.ofRow(day.plan);
        int minute = NONE;
        int bridge = NONE;
        System.arraycopy(day.plan, 0, trial, 0, MINUTES);
        for (int m = 0; m < MINUTES; m++) {
            int was = trial[m];
            for (int b = 0; b < BRIDGES; b++) {
                trial[m] = b;
                int then = b == was ? cost : costs.ofRow(trial);
                if (then < cost) {
                    cost = then;
                    minute = m;
                    bridge = b;
                }
            }
            trial[m] = was;
        }
        if (minute == NONE) {
            return NONE;
        }
        return what == 0 ? minute : what == 1 ? bridge : cost;
    }

    public int judge(int sheet) {
        int refusal = tellingRefusal(sheet);
        if (refusal != 0) {
            return refusal;
        }
        return firstUnlawful(sheets[sheet].cells, sheets[sheet].size);
    }

    public int who(int sheet) {
        int refusal = tellingRefusal(sheet);
        if (refusal != 0) {
            return refusal;
        }
        int bits = 0;
        for (int one = 0; one < day.masters; one++) {
            helm.steer(one);
            if (sheets[sheet].tells(helm.row)) {
                bits |= 1 << one;
            }
        }
        return bits;
    }

    public int drawn(int seed) {
        draw(seed);
        return costs.ofRow(trial);
    }

    public long chance(int seed, int n, int part) {
        if (n < 1 || n > 20 || part < 0 || part > 1) {
            return NO;
        }
        int hits = 0;
        for (int k = 0; k < n; k++) {
            draw(seed + k);
            if (day.throughCount(trial) == day.many()) {
                hits++;
            }
        }
        int common = greatestCommon(hits, n);
        if (common < 1) {
            return NO;
        }
        return part == 0 ? hits / common : n / common;
    }

    public int image() {
        kept.take(day);
        isKept = true;
        return day.many();
    }

    public int back() {
        if (!isKept) {
            return STATE;
        }
        day.take(kept);
        forget();
        return day.many();
    }

    public int count(int what) {
        switch (what) {
            case 0: return day.counts[0];
            case 1: return day.counts[1];
            case 2: return day.masters;
            case 3: return day.hold;
            case 4: return day.walk;
            case 5: return textCount;
            case 6: return taped;
            case 7: return day.rule;
            default: return BAD;
        }
    }

    // ---- the host

    public int sheet(int sheet, int sort, int n) {
        if (!isSheet(sheet) || sort != MISSING && !isSheetSort(sort)) {
            return BAD;
        }
        if (sort != MISSING && n > CELLS) {
            return BAD;
        }
        if (sort != MISSING && n < 0) {
            return NEGATIVE;
        }
        sheets[sheet].become(sort, sort == MISSING ? 0 : n);
        return 1;
    }

    public int cell(int sheet, int i, int v) {
        if (!isSheet(sheet)) {
            return BAD;
        }
        Sheet s = sheets[sheet];
        if (s.sort == MISSING) {
            return NOTHING;
        }
        if (!s.holds(i, 1)) {
            return OUTSIDE;
        }
        s.cells[i] = s.sort == 0 ? (byte) v : s.sort == 1 ? (short) v : v;
        return 1;
    }

    public int copy(int sheet, int i, int other, int j, int n) {
        if (!isSheet(sheet) || !isSheet(other)) {
            return BAD;
        }
        Sheet from = sheets[sheet];
        Sheet to = sheets[other];
        if (from.sort == MISSING || to.sort == MISSING) {
            return NOTHING;
        }
        if (from.sort != to.sort) {
            return UNLIKE;
        }
        if (!from.holds(i, n) || !to.holds(j, n)) {
            return OUTSIDE;
        }
        System.arraycopy(from.cells, i, to.cells, j, n);
        return n;
    }

    public int comes(int sheet, int sort, int from, int n) {
        if (!isSheet(sheet) || !isSheetSort(sort) || n < 0 || n > ALL) {
            return BAD;
        }
        Sheet s = sheets[sheet];
        if (s.sort == MISSING) {
            return NOTHING;
        }
        if (s.sort != sort) {
            return UNLIKE;
        }
        int came = 0;
        for (int k = 0; k < n; k++) {
            int i = from + 3 * k;
            if (!s.holds(i, 3)) {
                return OUTSIDE;
            }
            if (come(s.cells[i], s.cells[i + 1], s.cells[i + 2]) >= 0) {
                came++;
            }
        }
        return came;
    }

    public int taken(int master, int k) {
        if (!isKind(k)) {
            return BAD;
        }
        if (!isMaster(master)) {
            return NOTHING;
        }
        int kind = day.kinds[master];
        for (int step = 0; step < OVER.length && isKind(kind); step++) {
            if (kind == k) {
                return day.numbers[master];
            }
            kind = OVER[kind];
        }
        return UNLIKE;
    }

    // ---- what numbers are such

    private static boolean isSort(int sort) {
        return sort == 0 || sort == 1;
    }

    private static boolean isBridge(int bridge) {
        return bridge >= 0 && bridge < BRIDGES;
    }

    private static boolean isMinute(int minute) {
        return minute >= 0 && minute < MINUTES;
    }

    /** PRICES and NUMBERS are 0 .. 9 alike. */
    private static boolean isDigit(int v) {
        return v >= 0 && v <= 9;
    }

    private static boolean isKind(int kind) {
        return kind >= MASTER && kind <= LAZY;
    }

    private static boolean isSheet(int sheet) {
        return sheet >= 0 && sheet < SHEETS;
    }

    private static boolean isSheetSort(int sort) {
        return sort >= 0 && sort <= 2;
    }

    private boolean isOne(int sort, int one) {
        return isSort(sort) && one >= 0 && one < day.counts[sort];
    }

    private boolean isMaster(int one) {
        return one >= 0 && one < day.masters;
    }

    // ---- what the calls share

    /** What was found out of costs and least plans holds no longer. */
    private void forget() {
        costs.forget();
        search.forget();
    }

    private int changed(int[] row, int i, int v) {
        int was = row[i];
        row[i] = v;
        forget();
        return was;
    }

    private int takeTape() {
        if (textCount >= TEXTS) {
            return FULL;
        }
        int size = taped;
        taped = 0;
        if (!reader.reads(tape, size, texts[textCount])) {
            return -100 - reader.place;
        }
        textCount++;
        return textCount - 1;
    }

    private static int changes(int[] row) {
        int n = 0;
        for (int m = 1; m < MINUTES && m < row.length; m++) {
            if (row[m] != row[m - 1]) {
                n++;
            }
        }
        return n;
    }

    /** The first of n minutes for which row has no bridge, or one that came too soon. */
    private int firstUnlawful(int[] row, int n) {
        int held = 0;
        for (int m = 0; m < n && m < row.length; m++) {
            boolean isChange = m > 0 && row[m] != row[m - 1];
            if (!isBridge(row[m]) || isChange && held < day.hold) {
                return m;
            }
            held = isChange ? 1 : held + 1;
        }
        return NONE;
    }

    private int firstDown(int bridge, int from) {
        for (int m = Math.max(from, 0); m < MINUTES; m++) {
            if (day.plan[m] != bridge) {
                return m;
            }
        }
        return MINUTES;
    }

    /** 0, if a sheet can tell what was up in the day's minutes. */
    private int tellingRefusal(int sheet) {
        if (!isSheet(sheet)) {
            return BAD;
        }
        if (sheets[sheet].sort == MISSING) {
            return NOTHING;
        }
        return sheets[sheet].size > MINUTES ? BAD : 0;
    }

    private void draw(int seed) {
        int z = seed;
        for (int m = 0; m < MINUTES; m++) {
            z = z * 1103515245 + 12345;
            trial[m] = (z >>> 8) % BRIDGES;
        }
    }

    private static int greatestCommon(int a, int b) {
        int d = Math.max(b, 1);
        while (d > 1 && (a % d != 0 || b % d != 0)) {
            d--;
        }
        return d;
    }

    /** All that an image keeps. Ships stand in rows at 0 .. 3, carts at 4 .. 7. */
    private static final class Day {
        final int[] plan = new int[MINUTES];
        final int[] counts = new int[2];
        final int[] bridges = new int[ALL];
        final int[] froms = new int[ALL];
        final int[] prices = new int[ALL];
        final int[] kinds = new int[EACH];
        final int[] numbers = new int[EACH];
        int masters = 0;
        int hold = 1;
        int walk = 3;
        int rule = 0;

        void take(Day other) {
            System.arraycopy(other.plan, 0, plan, 0, MINUTES);
            System.arraycopy(other.counts, 0, counts, 0, 2);
            System.arraycopy(other.bridges, 0, bridges, 0, ALL);
            System.arraycopy(other.froms, 0, froms, 0, ALL);
            System.arraycopy(other.prices, 0, prices, 0, ALL);
            System.arraycopy(other.kinds, 0, kinds, 0, EACH);
            System.arraycopy(other.numbers, 0, numbers, 0, EACH);
            masters = other.masters;
            hold = other.hold;
            walk = other.walk;
            rule = other.rule;
        }

        int many() {
            return counts[0] + counts[1];
        }

        boolean isThere(int i) {
            return i < EACH ? i >= 0 && i < counts[0] : i - EACH < counts[1];
        }

        /** Whether one gets through in a minute in which a bridge is up. */
        boolean passes(int i, int bridgeUp) {
            return (bridges[i] == bridgeUp) == (i < EACH);
        }

        /** The minute in which one is through by a row, or 24. */
        int through(int i, int[] row) {
            for (int m = Math.max(froms[i], 0); m < MINUTES && m < row.length; m++) {
                if (passes(i, row[m])) {
                    return m;
                }
            }
            return MINUTES;
        }

        int throughCount(int[] row) {
            int n = 0;
            for (int i = 0; i < ALL; i++) {
                if (isThere(i) && through(i, row) < MINUTES) {
                    n++;
                }
            }
            return n;
        }
    }

    /** What waiting and changes cost by the rule; each is reckoned once until something changes. */
    private static final class Costs {
        private static final int UNKNOWN = -1, DEAREST = 99;
        private static final int CHANGES = ALL * ENDS;

        private final Day day;
        private final Text[] texts;
        private final int[] known = new int[CHANGES + MINUTES * BRIDGES * BRIDGES];
        private final int[] names = new int[6];
        private final int[] stack = new int[TAPE];

        Costs(Day day, Text[] texts) {
            this.day = day;
            this.texts = texts;
            Arrays.fill(known, UNKNOWN);
        }

        void forget() {
            Arrays.fill(known, UNKNOWN);
        }

        /** What it costs that one is through in a minute (24: in none). */
        int ofOne(int i, int minute) {
            if (i < 0 || i >= ALL || minute < 0 || minute > MINUTES) {
                return 0;
            }
            int place = i * ENDS + minute;
            if (known[place] == UNKNOWN) {
                names[0] = minute - day.froms[i];
                names[1] = day.prices[i];
                names[2] = minute;
                names[3] = day.bridges[i];
                names[4] = 0;
                known[place] = reckon(i < EACH ? 0 : 1);
            }
            return known[place];
        }

        int ofChange(int minute, int was, int is) {
            if (!isMinute(minute) || !isBridge(was) || !isBridge(is)) {
                return 0;
            }
            int place = CHANGES + (minute * BRIDGES + was) * BRIDGES + is;
            if (known[place] == UNKNOWN) {
                names[0] = 0;
                names[1] = 0;
                names[2] = minute;
                names[3] = is;
                names[4] = was;
                known[place] = reckon(2);
            }
            return known[place];
        }

        int ofRow(int[] row) {
            int sum = 0;
            for (int i = 0; i < ALL; i++) {
                if (day.isThere(i)) {
                    sum += ofOne(i, day.through(i, row));
                }
            }
            for (int m = 1; m < MINUTES && m < row.length; m++) {
                if (row[m] != row[m - 1]) {
                    sum += ofChange(m, row[m - 1], row[m]);
                }
            }
            return sum;
        }

        private int reckon(int part) {
            names[5] = day.many();
            int rule = day.rule;
            if (rule < 0 || rule >= texts.length || texts[rule] == null) {
                return 0;
            }
            return Math.max(0, Math.min(DEAREST, texts[rule].worth(part, names, stack)));
        }
    }

    /** A text's three expressions, each operator behind what it belongs to. */
    private static final class Text {
        // 0 and above are numbers, -1 .. -6 names
        static final int LAST_NAME = -6, MINUS = -7, NOT = -8;
        static final int ADD = -9, LESSEN = -10, TIMES = -11, LESS = -12, SAME = -13, AND = -14, OR = -15;

        private final int[] code = new int[TAPE];
        private final int[] ends = new int[3];
        private int size = 0;

        void clear() {
            size = 0;
        }

        void put(int c) {
            if (size < code.length) {
                code[size] = c;
                size++;
            }
        }

        void endPart(int part) {
            if (part >= 0 && part < ends.length) {
                ends[part] = size;
            }
        }

        int worth(int part, int[] names, int[] stack) {
            if (part < 0 || part >= ends.length) {
                return 0;
            }
            int top = 0;
            for (int p = part == 0 ? 0 : ends[part - 1]; p < ends[part] && p < code.length; p++) {
                int c = code[p];
                if (c >= LAST_NAME) {
                    if (top < stack.length) {
                        stack[top] = c >= 0 ? c : nameAt(names, -1 - c);
                        top++;
                    }
                } else if (c >= NOT) {
                    if (top >= 1) {
                        stack[top - 1] = c == MINUS ? -stack[top - 1] : stack[top - 1] == 0 ? 1 : 0;
                    }
                } else if (top >= 2) {
                    top--;
                    stack[top - 1] = joined(c, stack[top - 1], stack[top]);
                }
            }
            return top > 0 ? stack[top - 1] : 0;
        }

        private static int nameAt(int[] names, int i) {
            return i >= 0 && i < names.length ? names[i] : 0;
        }

        private static int joined(int c, int a, int b) {
            switch (c) {
                case ADD: return a + b;
                case LESSEN: return a - b;
                case TIMES: return a * b;
                case LESS: return a < b ? 1 : 0;
                case SAME: return a == b ? 1 : 0;
                case AND: return a != 0 && b != 0 ? 1 : 0;
                default: return a != 0 || b != 0 ? 1 : 0;
            }
        }
    }

    /** Reads a text: first its tokens, then by them what it says. */
    private static final class Reader {
        // signs are tokens by their own bytes, all of which are above these
        private static final int END = 0, WRONG = 1, NUMBER = 2, NAME = 3;
        private static final int SHIP = 4, CART = 5, CHANGE = 6, OR = 7, AND = 8, NOT = 9;

        private final int[] kinds = new int[TAPE + 1];
        private final int[] values = new int[TAPE + 1];
        private final int[] places = new int[TAPE + 1];
        private int count = 0;
        private int ahead = 0;
        /** The token that is looked at; where reading stops, its place is the fault's. */
        private int token = END;
        private int value = 0;
        int place = 0;
        private Text out = null;

        boolean reads(int[] tape, int n, Text text) {
            if (tape == null || text == null) {
                return false;
            }
            scan(tape, Math.max(0, Math.min(Math.min(n, TAPE), tape.length)));
            out = text;
            out.clear();
            ahead = 0;
            advance();
            return part(0, SHIP) && part(1, CART) && part(2, CHANGE) && token == END;
        }

        private void scan(int[] tape, int size) {
            count = 0;
            int p = 0;
            for (int n = 0; n < TAPE && p < size; n++) {
                int c = tape[p];
                if (isLetter(c)) {
                    p = takeWord(tape, p, size);
                } else if (isNumeral(c)) {
                    p = takeNumber(tape, p, size);
                } else {
                    if (c != 32 && c != 10) {
                        keep(isSign(c) ? c : WRONG, 0, p);
                    }
                    p++;
                }
            }
            keep(END, 0, size);
        }

        private void keep(int kind, int v, int start) {
            if (count < kinds.length) {
                kinds[count] = kind;
                values[count] = v;
                places[count] = start;
                count++;
            }
        }

        private int takeWord(int[] tape, int start, int size) {
            int end = start;
            while (end < size && isLetter(tape[end])) {
                end++;
            }
            int name = nameOf(tape, start, end);
            keep(name == NONE ? keyOf(tape, start, end) : NAME, name, start);
            return end;
        }

        private int takeNumber(int[] tape, int start, int size) {
            int end = start;
            int v = 0;
            while (end < size && isNumeral(tape[end])) {
                v = v * 10 + tape[end] - '0';
                end++;
            }
            keep(end - start > DIGITS ? WRONG : NUMBER, v, start);
            return end;
        }

        private static int nameOf(int[] tape, int start, int end) {
            if (isWord("waited", tape, start, end)) {
                return 0;
            }
            if (isWord("price", tape, start, end)) {
                return 1;
            }
            if (isWord("minute", tape, start, end)) {
                return 2;
            }
            if (isWord("bridge", tape, start, end)) {
                return 3;
            }
            if (isWord("was", tape, start, end)) {
                return 4;
            }
            return isWord("many", tape, start, end) ? 5 : NONE;
        }

        private static int keyOf(int[] tape, int start, int end) {
            if (isWord("ship", tape, start, end)) {
                return SHIP;
            }
            if (isWord("cart", tape, start, end)) {
                return CART;
            }
            if (isWord("change", tape, start, end)) {
                return CHANGE;
            }
            if (isWord("or", tape, start, end)) {
                return OR;
            }
            if (isWord("and", tape, start, end)) {
                return AND;
            }
            return isWord("not", tape, start, end) ? NOT : WRONG;
        }

        private static boolean isWord(String word, int[] tape, int start, int end) {
            if (word.length() != end - start || start < 0 || end > tape.length) {
                return false;
            }
            for (int i = 0; i < word.length(); i++) {
                if (tape[start + i] != word.charAt(i)) {
                    return false;
                }
            }
            return true;
        }

        private static boolean isLetter(int c) {
            return c >= 'a' && c <= 'z';
        }

        private static boolean isNumeral(int c) {
            return c >= '0' && c <= '9';
        }

        private static boolean isSign(int c) {
            return c == '(' || c == ')' || c == ';' || c == '+' || c == '-' || c == '*' || c == '<' || c == '=';
        }

        private void advance() {
            if (ahead >= 0 && ahead < count && ahead < kinds.length) {
                token = kinds[ahead];
                value = values[ahead];
                place = places[ahead];
                ahead++;
            }
        }

        private boolean passes(int wanted) {
            if (token != wanted) {
                return false;
            }
            advance();
            return true;
        }

        private boolean part(int part, int key) {
            if (!passes(key) || !either(0) || !passes(';')) {
                return false;
            }
            out.endPart(part);
            return true;
        }

        private boolean either(int open) {
            if (!both(open)) {
                return false;
            }
            for (int n = 0; n < TAPE && token == OR; n++) {
                advance();
                if (!both(open)) {
                    return false;
                }
                out.put(Text.OR);
            }
            return true;
        }

        private boolean both(int open) {
            if (!maybeNot(open)) {
                return false;
            }
            for (int n = 0; n < TAPE && token == AND; n++) {
                advance();
                if (!maybeNot(open)) {
                    return false;
                }
                out.put(Text.AND);
            }
            return true;
        }

        private boolean maybeNot(int open) {
            if (token != NOT) {
                return comparison(open);
            }
            if (open >= OPEN) {
                return false;
            }
            advance();
            if (!maybeNot(open + 1)) {
                return false;
            }
            out.put(Text.NOT);
            return true;
        }

        private boolean comparison(int open) {
            if (!sum(open)) {
                return false;
            }
            if (token != '<' && token != '=') {
                return true;
            }
            int c = token == '<' ? Text.LESS : Text.SAME;
            advance();
            if (!sum(open)) {
                return false;
            }
            out.put(c);
            return true;
        }

        private boolean sum(int open) {
            if (!term(open)) {
                return false;
            }
            for (int n = 0; n < TAPE && (token == '+' || token == '-'); n++) {
                int c = token == '+' ? Text.ADD : Text.LESSEN;
                advance();
                if (!term(open)) {
                    return false;
                }
                out.put(c);
            }
            return true;
        }

        private boolean term(int open) {
            if (!one(open)) {
                return false;
            }
            for (int n = 0; n < TAPE && token == '*'; n++) {
                advance();
                if (!one(open)) {
                    return false;
                }
                out.put(Text.TIMES);
            }
            return true;
        }

        private boolean one(int open) {
            if (token == NUMBER || token == NAME) {
                out.put(token == NUMBER ? value : -1 - value);
                advance();
                return true;
            }
            if (token != '(' && token != '-' || open >= OPEN) {
                return false;
            }
            if (passes('(')) {
                return either(open + 1) && passes(')');
            }
            advance();
            if (!one(open + 1)) {
                return false;
            }
            out.put(Text.MINUS);
            return true;
        }
    }

    /**
     * The best lawful plan, as a row of spans in which one bridge is up.
     * Where a span begins, only ships still wait: carts at the bridge that
     * was up go at once, those at others never had to wait. So what is to
     * come depends on the minute, the bridge that was up, and the ships that
     * wait, and spans are reckoned from the day's end back to its start.
     */
    private static final class Search {
        private static final int SETS = 1 << EACH, UNKNOWN = -2;
        // all that a day has costs less than FAR, all that can be far less than UNTRIED
        private static final int FAR = 1000000, UNTRIED = 1000000000;
        private static final int PLACES = ENDS * BRIDGES * SETS;

        private final Day day;
        private final Costs costs;
        /** What each one costs by the minute in which it is through, what each change does. */
        private final int[] oneCost = new int[ALL * ENDS];
        private final int[] changeCost = new int[MINUTES * BRIDGES * BRIDGES];
        /** The least that is to come from a place on, and by which bridge, till when. */
        private final int[] value = new int[PLACES];
        private final int[] bridge = new int[PLACES];
        private final int[] end = new int[PLACES];
        /** Of spans from one minute on, by bridge and end: what comers cost, which of them still wait then. */
        private final int[] spanCost = new int[BRIDGES * ENDS];
        private final int[] spanWait = new int[BRIDGES * ENDS];
        /** The ships of each bridge. */
        private final int[] shipsAt = new int[BRIDGES];
        final int[] leastRow = new int[MINUTES];
        int leastCost = UNKNOWN;
        private int fewestKnown = UNKNOWN;

        Search(Day day, Costs costs) {
            this.day = day;
            this.costs = costs;
        }

        void forget() {
            leastCost = UNKNOWN;
            fewestKnown = UNKNOWN;
        }

        void findLeast() {
            if (leastCost == UNKNOWN) {
                priceByRule();
                leastCost = solve();
                layRow();
            }
        }

        int fewestChanges() {
            if (fewestKnown == UNKNOWN) {
                priceChangesAlone();
                int n = solve();
                fewestKnown = n < FAR ? n : NONE;
            }
            return fewestKnown;
        }

        private void priceByRule() {
            for (int i = 0; i < ALL; i++) {
                for (int m = Math.max(day.froms[i], 0); m <= MINUTES && day.isThere(i); m++) {
                    oneCost[i * ENDS + m] = costs.ofOne(i, m);
                }
            }
            for (int m = 1; m < MINUTES; m++) {
                for (int was = 0; was < BRIDGES; was++) {
                    for (int is = 0; is < BRIDGES; is++) {
                        changeCost[(m * BRIDGES + was) * BRIDGES + is] = was == is ? 0 : costs.ofChange(m, was, is);
                    }
                }
            }
        }

        /** One who is through in no minute is dearer than all changes of a day. */
        private void priceChangesAlone() {
            Arrays.fill(oneCost, 0);
            for (int i = 0; i < ALL; i++) {
                oneCost[i * ENDS + MINUTES] = FAR;
            }
            Arrays.fill(changeCost, 1);
        }

        private int solve() {
            for (int b = 0; b < BRIDGES; b++) {
                shipsAt[b] = ships(0, MINUTES, b, true);
            }
            Arrays.fill(spanCost, 0);
            Arrays.fill(spanWait, 0);
            closeDay();
            for (int s = MINUTES - 1; s > 0; s--) {
                addComers(s);
                for (int was = 0; was < BRIDGES; was++) {
                    settleMinute(s, was);
                }
            }
            addComers(0);
            settle(0, NONE, 0);
            return value[0];
        }

        /** Ships that still wait when the day ends are through in no minute. */
        private void closeDay() {
            for (int w = 0; w < SETS; w++) {
                int cost = costOfShips(w, MINUTES);
                for (int b = 0; b < BRIDGES; b++) {
                    value[place(MINUTES, b, w)] = cost;
                }
            }
        }

        /** Spans that began after s are made to begin at s. */
        private void addComers(int s) {
            for (int i = 0; i < ALL; i++) {
                if (day.isThere(i) && day.froms[i] == s) {
                    for (int b = 0; b < BRIDGES; b++) {
                        addComer(i, s, b);
                    }
                }
            }
        }

        private void addComer(int i, int s, int b) {
            boolean passes = day.passes(i, b);
            for (int e = s + 1; e < ENDS; e++) {
                int span = b * ENDS + e;
                if (passes) {
                    spanCost[span] += oneCost[i * ENDS + s];
                } else if (i >= EACH) {
                    spanCost[span] += oneCost[i * ENDS + e];
                } else {
                    spanWait[span] |= 1 << i;
                }
            }
        }

        private void settleMinute(int s, int was) {
            int could = ships(0, s, was, false);
            for (int w = 0; w < SETS; w++) {
                if ((w & ~could) == 0) {
                    settle(s, was, w);
                }
            }
        }

        /** Ahead of minute 0 nothing was up: was is NONE there, and place 0 its one place. */
        private void settle(int s, int was, int w) {
            int here = place(s, was, w);
            value[here] = UNTRIED;
            for (int b = 0; b < BRIDGES; b++) {
                if (b != was) {
                    int change = isBridge(was) ? changeCost[(s * BRIDGES + was) * BRIDGES + b] : 0;
                    trySpans(here, s, b, w & ~shipsAt[b], change + costOfShips(w & shipsAt[b], s));
                }
            }
        }

        /**
         * Of like ones the first row is to be found. Bridges are tried in
         * their order; of two ends the later one keeps b in the minute in
         * which the sooner one has its next bridge, so it is first unless
         * that bridge is below b.
         */
        private void trySpans(int here, int s, int b, int waiting, int begun) {
            int next = NONE;
            for (int e = Math.min(s + day.hold, MINUTES); e < ENDS; e++) {
                int there = (e * BRIDGES + b) * SETS + (waiting | spanWait[b * ENDS + e]);
                int cost = begun + spanCost[b * ENDS + e] + value[there];
                if (cost < value[here] || cost == value[here] && next > b) {
                    value[here] = cost;
                    bridge[here] = b;
                    end[here] = e;
                    next = e < MINUTES ? bridge[there] : NONE;
                }
            }
        }

        private void layRow() {
            int here = 0;
            int s = 0;
            int w = 0;
            for (int span = 0; span < MINUTES && s < MINUTES; span++) {
                int b = bridge[here];
                int e = Math.min(end[here], MINUTES);
                for (int m = s; m < e; m++) {
                    leastRow[m] = b;
                }
                w = w & ~ships(0, MINUTES, b, true) | ships(s, e, b, false);
                s = Math.max(s, e);
                here = place(s, b, w);
            }
        }

        private static int place(int minute, int was, int waiting) {
            if (minute < 0 || minute > MINUTES || !isBridge(was)) {
                return 0;
            }
            return (minute * BRIDGES + was) * SETS + (waiting & SETS - 1);
        }

        /** Ships that come from s on, ahead of e, at a bridge, or at others. */
        private int ships(int s, int e, int b, boolean there) {
            int bits = 0;
            for (int i = 0; i < EACH; i++) {
                if (day.isThere(i) && day.froms[i] >= s && day.froms[i] < e && (day.bridges[i] == b) == there) {
                    bits |= 1 << i;
                }
            }
            return bits;
        }

        private int costOfShips(int bits, int minute) {
            int sum = 0;
            for (int i = 0; i < EACH; i++) {
                if ((bits & 1 << i) != 0) {
                    sum += oneCost[i * ENDS + minute];
                }
            }
            return sum;
        }
    }

    /** The run of a master. */
    private static final class Helm {
        private final Day day;
        final int[] row = new int[MINUTES];
        /** What the prices are together of those who wait at each bridge. */
        private final int[] ships = new int[BRIDGES];
        private final int[] carts = new int[BRIDGES];

        Helm(Day day) {
            this.day = day;
        }

        void steer(int master) {
            if (master < 0 || master >= EACH) {
                return;
            }
            int gone = 0;
            int up = 0;
            for (int m = 0; m < MINUTES; m++) {
                for (int b = 0; b < BRIDGES; b++) {
                    ships[b] = waiting(0, b, m, gone);
                    carts[b] = waiting(EACH, b, m, gone);
                }
                up = next(day.kinds[master], day.numbers[master], m, up);
                row[m] = up;
                gone |= going(m, up);
            }
        }

        private int waiting(int first, int bridge, int minute, int gone) {
            int sum = 0;
            for (int i = first; i < first + EACH && i < ALL; i++) {
                if (day.isThere(i) && day.bridges[i] == bridge && day.froms[i] <= minute && (gone & 1 << i) == 0) {
                    sum += day.prices[i];
                }
            }
            return sum;
        }

        private int going(int minute, int up) {
            int bits = 0;
            for (int i = 0; i < ALL; i++) {
                if (day.isThere(i) && day.froms[i] <= minute && day.passes(i, up)) {
                    bits |= 1 << i;
                }
            }
            return bits;
        }

        private int next(int kind, int number, int minute, int up) {
            switch (kind) {
                case TIDE: return byTide(number, minute, up);
                case MARKET: return byMarket();
                case CALL: return isBridge(up) && ships[up] != 0 ? up : byTide(number, minute, up);
                case BEST: return number % 2 == 1 ? byMarket() : byGain();
                case LAZY: return minute % 3 == 0 ? byTide(number, minute, up) : up;
                default: return byClock(number, minute, up);
            }
        }

        private static int byClock(int number, int minute, int up) {
            int every = number + 1;
            return every > 0 && minute % every == 0 ? (up + 1) % BRIDGES : up;
        }

        private int byTide(int number, int minute, int up) {
            int most = 0;
            for (int b = 1; b < BRIDGES; b++) {
                if (ships[b] > ships[most]) {
                    most = b;
                }
            }
            return ships[most] > 0 ? most : byClock(number, minute, up);
        }

        private int byMarket() {
            int fewest = 0;
            for (int b = 1; b < BRIDGES; b++) {
                if (carts[b] < carts[fewest]) {
                    fewest = b;
                }
            }
            return fewest;
        }

        private int byGain() {
            int best = 0;
            for (int b = 1; b < BRIDGES; b++) {
                if (ships[b] - carts[b] > ships[best] - carts[best]) {
                    best = b;
                }
            }
            return best;
        }
    }

    /** A row of numbers of a sort, or missing. */
    private static final class Sheet {
        final int[] cells = new int[CELLS];
        int sort = MISSING;
        int size = 0;

        void become(int newSort, int n) {
            Arrays.fill(cells, 0);
            sort = newSort;
            size = Math.max(0, Math.min(n, CELLS));
        }

        boolean holds(int i, int n) {
            return i >= 0 && n >= 0 && i <= size - n;
        }

        /** Whether a row is as the sheet tells it, as far as it tells. */
        boolean tells(int[] row) {
            for (int i = 0; i < size && i < row.length; i++) {
                if (cells[i] != row[i]) {
                    return false;
                }
            }
            return true;
        }
    }
}
