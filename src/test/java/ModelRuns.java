import java.util.ArrayList;
import java.util.Arrays;
import java.util.HashMap;
import java.util.List;
import java.util.Map;
import java.util.Random;

/**
 * Many runs of calls, each put to a new OneAlwaysUp and to a model that is written straight from the
 * document, minute by minute and without regard for time or room. Each answer must be the same.
 */
public final class ModelRuns {
    private static final int RUNS = 2500;
    private static int wrong = 0;

    public static void main(String[] args) {
        long calls = 0;
        for (int seed = 0; seed < RUNS && wrong < 20; seed++) {
            calls += new Run(seed).go();
        }
        for (int seed = 0; seed < 60 && wrong < 20; seed++) {
            eachLawfulPlan(seed);
        }
        System.out.println(wrong == 0 ? calls + " calls are as the model's" : wrong + " answers are not as the model's");
        if (wrong != 0) {
            System.exit(1);
        }
    }

    /** LEAST and FEWEST against every lawful plan there is, written out one by one. */
    private static void eachLawfulPlan(int seed) {
        Random random = new Random(seed * 77L + 5);
        OneAlwaysUp x = new OneAlwaysUp();
        Model y = new Model();
        int hold = 3 + random.nextInt(2);
        x.law(0, 0, hold);
        y.law(0, 0, hold);
        String text = Run.someText(random);
        for (int i = 0; i < text.length(); i++) {
            x.feed(text.charAt(i));
            y.feed(text.charAt(i));
        }
        x.text();
        if (y.text() == 1 && random.nextInt(3) > 0) {
            x.force(1);
            y.force(1);
        }
        int n = random.nextInt(9);
        for (int k = 0; k < n; k++) {
            int sort = random.nextInt(2);
            int what = random.nextInt(3) * 100 + random.nextInt(24);
            int price = random.nextInt(10);
            x.come(sort, what, price);
            y.come(sort, what, price);
        }
        int[] best = new int[26];
        best[0] = Integer.MAX_VALUE;
        int[] fewest = {Integer.MAX_VALUE};
        walk(y, new int[24], 0, best, fewest);
        for (int what = 0; what < 26; what++) {
            check("plans " + seed + ": least(" + what + ")", x.least(what), best[what]);
        }
        check("plans " + seed + ": fewest()", x.fewest(), fewest[0] == Integer.MAX_VALUE ? -1 : fewest[0]);
    }

    private static void walk(Model y, int[] row, int minute, int[] best, int[] fewest) {
        if (minute == 24) {
            int cost = y.cost(row);
            if (cost < best[0]) {
                best[0] = cost;
                best[1] = y.changes(row);
                System.arraycopy(row, 0, best, 2, 24);
            }
            if (y.through(row) == y.ones(0).size() + y.ones(1).size()) {
                fewest[0] = Math.min(fewest[0], y.changes(row));
            }
            return;
        }
        for (int b = 0; b < 3; b++) {
            row[minute] = b;
            if (y.unlawful(Arrays.copyOf(row, minute + 1)) == -1) {
                walk(y, row, minute + 1, best, fewest);
            }
        }
    }

    private static void check(String call, long got, long due) {
        if (got != due) {
            wrong++;
            System.out.println(call + " answered " + got + ", due is " + due);
        }
    }

    /** One object's calls, some of them with wrong numbers. */
    private static final class Run {
        private final Random random;
        private final int seed;
        private final OneAlwaysUp x = new OneAlwaysUp();
        private final Model y = new Model();
        private final StringBuilder said = new StringBuilder();
        private int calls = 0;
        private final int start;

        Run(int seed) {
            this.seed = seed;
            this.random = new Random(seed);
            this.start = wrong;
        }

        private int upTo(int n) {
            return random.nextInt(n);
        }

        /** 0 .. n - 1, now and then beyond. */
        private int some(int n) {
            int dice = upTo(40);
            if (dice == 0) {
                return -1;
            }
            if (dice == 1) {
                return n;
            }
            if (dice == 2) {
                return upTo(4) == 0 ? Integer.MAX_VALUE - upTo(3) : upTo(3) == 0 ? Integer.MIN_VALUE + upTo(3) : upTo(600) - 300;
            }
            return upTo(n);
        }

        int go() {
            // a step may go some fifty calls beyond, and behind the 512th all answers are free
            int most = 100 + upTo(360);
            while (calls < most && wrong == start) {
                step();
            }
            if (wrong > start) {
                System.out.println("run " + seed + ":" + said);
            }
            return calls;
        }

        private void due(String call, long got, long want) {
            calls++;
            said.append(' ').append(call);
            check("run " + seed + ": " + call, got, want);
        }

        private void step() {
            switch (upTo(12)) {
                case 0: comers(); break;
                case 1: laws(); break;
                case 2: if (upTo(6) == 0) { texts(); } break;
                case 3: case 4: plan(); break;
                case 5: best(); break;
                case 6: masters(); break;
                case 7: cart(); break;
                case 8: draws(); break;
                case 9: images(); break;
                case 10: case 11: host(); break;
                default: break;
            }
        }

        private void comers() {
            int a = some(2), b = some(3) * 100 + some(24), c = some(10);
            due("come(" + a + ", " + b + ", " + c + ")", x.come(a, b, c), y.come(a, b, c));
        }

        private void laws() {
            int a = some(2), b = some(4), c = some(3), d = some(c == 1 ? 24 : c == 0 ? 3 : 10);
            due("set(" + a + ", " + b + ", " + c + ", " + d + ")", x.set(a, b, c, d), y.set(a, b, c, d));
            a = some(3); b = some(4); c = some(10);
            due("law(" + a + ", " + b + ", " + c + ")", x.law(a, b, c), y.law(a, b, c));
            a = some(2); b = some(4); c = some(6);
            due("told(" + a + ", " + b + ", " + c + ")", x.told(a, b, c), y.told(a, b, c));
        }

        private void texts() {
            String text = someText(random);
            for (int i = 0; i < text.length() && calls < 400; i++) {
                int c = text.charAt(i);
                due("feed(" + c + ")", x.feed(c), y.feed(c));
            }
            int c = some(256);
            if (upTo(10) == 0) {
                due("feed(" + c + ")", x.feed(c), y.feed(c));
            }
            due("count(6)", x.count(6), y.count(6));
            due("text()", x.text(), y.text());
            int t = some(6);
            due("force(" + t + ")", x.force(t), y.force(t));
        }

        private void plan() {
            int a = some(24), b = some(3);
            due("up(" + a + ", " + b + ")", x.up(a, b), y.up(a, b));
            a = some(24);
            due("at(" + a + ")", x.at(a), y.at(a));
            a = some(4);
            due("plan(" + a + ")", x.plan(a), y.plan(a));
            a = some(25);
            due("late(" + a + ")", x.late(a), y.late(a));
            a = some(3);
            due("blame(" + a + ")", x.blame(a), y.blame(a));
            a = some(8);
            due("count(" + a + ")", x.count(a), y.count(a));
        }

        private void best() {
            int a = some(26);
            due("least(" + a + ")", x.least(a), y.least(a));
            due("fewest()", x.fewest(), y.fewest());
            if (upTo(4) == 0) {
                due("lay()", x.lay(), y.lay());
            }
        }

        private void masters() {
            int a = some(6), b = some(10);
            if (upTo(3) == 0) {
                due("master(" + a + ", " + b + ")", x.master(a, b), y.master(a, b));
            }
            a = some(4); b = some(24);
            due("run(" + a + ", " + b + ")", x.run(a, b), y.run(a, b));
            due("run(" + a + ", -1)", x.run(a, -1), y.run(a, -1));
            b = some(6);
            due("taken(" + a + ", " + b + ")", x.taken(a, b), y.taken(a, b));
            if (upTo(4) == 0) {
                due("follow(" + a + ")", x.follow(a), y.follow(a));
            }
        }

        private void cart() {
            int a = some(4), b = some(2);
            due("way(" + a + ", " + b + ")", x.way(a, b), y.way(a, b));
            a = some(3);
            due("fourth(" + a + ")", x.fourth(a), y.fourth(a));
        }

        private void draws() {
            int a = random.nextInt(), b = some(22), c = some(2);
            due("drawn(" + a + ")", x.drawn(a), y.drawn(a));
            a = upTo(5) == 0 ? Integer.MAX_VALUE - 4 : random.nextInt();
            due("chance(" + a + ", " + b + ", " + c + ")", x.chance(a, b, c), y.chance(a, b, c));
        }

        private void images() {
            if (upTo(4) == 0) {
                due("image()", x.image(), y.image());
            }
            if (upTo(4) == 0) {
                due("back()", x.back(), y.back());
            }
        }

        private void host() {
            int a = some(4), b = upTo(5) == 0 ? some(5) - 1 : upTo(3), c = upTo(4) == 0 ? some(45) : upTo(30);
            if (upTo(3) == 0) {
                due("sheet(" + a + ", " + b + ", " + c + ")", x.sheet(a, b, c), y.sheet(a, b, c));
                if (upTo(2) == 0) {
                    tellRun(a);
                }
            }
            for (int k = upTo(8); k > 0; k--) {
                int i = some(24);
                int v = upTo(6) == 0 ? random.nextInt() : upTo(3) == 0 ? upTo(3) * 100 + upTo(24) : upTo(3) + (upTo(9) == 0 ? 256 : 0);
                due("cell(" + a + ", " + i + ", " + v + ")", x.cell(a, i, v), y.cell(a, i, v));
            }
            due("judge(" + a + ")", x.judge(a), y.judge(a));
            due("who(" + a + ")", x.who(a), y.who(a));
            int o = some(4), i = some(20), j = some(20), n = some(20);
            due("copy(" + a + ", " + i + ", " + o + ", " + j + ", " + n + ")", x.copy(a, i, o, j, n), y.copy(a, i, o, j, n));
            if (upTo(4) == 0) {
                i = some(10); n = some(9); b = some(3);
                due("comes(" + a + ", " + b + ", " + i + ", " + n + ")", x.comes(a, b, i, n), y.comes(a, b, i, n));
            }
        }

        /** A sheet that tells what a master's run has, so that WHO has someone to name. */
        private void tellRun(int a) {
            int n = upTo(24), m = upTo(4);
            due("sheet(" + a + ", 0, " + n + ")", x.sheet(a, 0, n), y.sheet(a, 0, n));
            for (int i = 0; i < n; i++) {
                int v = y.run(m, i);
                due("cell(" + a + ", " + i + ", " + v + ")", x.cell(a, i, v), y.cell(a, i, v));
            }
        }

        static String someText(Random random) {
            StringBuilder b = new StringBuilder();
            String[] keys = {"ship", "cart", "change"};
            for (int p = 0; p < 3; p++) {
                b.append(keys[p]).append(' ').append(expression(random, 3)).append(random.nextBoolean() ? " ;" : ";");
                if (random.nextInt(3) == 0) {
                    b.append(random.nextBoolean() ? ' ' : '\n');
                }
            }
            if (random.nextInt(2) == 0) {
                String signs = "()-+*<=; 0123456789abnotor";
                for (int k = 1 + random.nextInt(2); k > 0 && b.length() > 0; k--) {
                    int at = random.nextInt(b.length());
                    char c = random.nextInt(20) == 0 ? (char) random.nextInt(256) : signs.charAt(random.nextInt(signs.length()));
                    switch (random.nextInt(4)) {
                        case 0: b.setCharAt(at, c); break;
                        case 1: b.insert(at, c); break;
                        case 2: b.deleteCharAt(at); break;
                        default: if (random.nextInt(4) == 0) { b.setLength(at); } break;
                    }
                }
            }
            return b.length() > 165 ? b.substring(0, 165) : b.toString();
        }

        private static String expression(Random random, int depth) {
            String[] names = {"waited", "price", "minute", "bridge", "was", "many"};
            if (depth == 0 || random.nextInt(4) == 0) {
                return random.nextInt(3) == 0 ? "" + random.nextInt(random.nextInt(8) == 0 ? 12000 : 40) : names[random.nextInt(6)];
            }
            String a = expression(random, depth - 1);
            switch (random.nextInt(12)) {
                case 0: return a + " or " + expression(random, depth - 1);
                case 1: return a + " and " + expression(random, depth - 1);
                case 2: return "not " + a;
                case 3: return a + "<" + expression(random, depth - 1);
                case 4: return a + " = " + expression(random, depth - 1);
                case 5: case 6: return a + "+" + expression(random, depth - 1);
                case 7: return a + "-" + expression(random, depth - 1);
                case 8: case 9: return a + "*" + expression(random, depth - 1);
                case 10: return "-" + a;
                default: return "(" + a + ")";
            }
        }
    }

    private interface Worth {
        int of(int[] names);
    }

    private static final class Fault extends RuntimeException {
        private static final long serialVersionUID = 1L;
        final int place;

        Fault(int place) {
            this.place = place;
        }
    }

    /** A text, token by token from the bytes on; what is open is counted as it opens and ends. */
    private static final class Reading {
        private static final List<String> NAMES = List.of("waited", "price", "minute", "bridge", "was", "many");
        private static final List<String> KEYS = List.of("ship", "cart", "change", "or", "and", "not");
        private final String text;
        private int place = 0;
        private String token = "";
        private int open = 0;

        Reading(String text) {
            this.text = text;
            next(0);
        }

        /** Looks at the token from a place on: "" at the end, "?" where none can be. */
        private void next(int from) {
            place = from;
            while (place < text.length() && " \n".indexOf(text.charAt(place)) >= 0) {
                place++;
            }
            int end = place;
            while (end < text.length() && text.charAt(end) >= 'a' && text.charAt(end) <= 'z') {
                end++;
            }
            if (end > place) {
                token = text.substring(place, end);
                return;
            }
            while (end < text.length() && text.charAt(end) >= '0' && text.charAt(end) <= '9') {
                end++;
            }
            if (end > place) {
                token = text.substring(place, end);
            } else if (place == text.length()) {
                token = "";
            } else {
                token = "();+-*<=".indexOf(text.charAt(place)) >= 0 ? text.substring(place, place + 1) : "?";
            }
        }

        private boolean is(String wanted) {
            if (!token.equals(wanted)) {
                return false;
            }
            next(place + token.length());
            return true;
        }

        private void must(String wanted) {
            if (!is(wanted)) {
                throw new Fault(place);
            }
        }

        private void opens() {
            if (open == 5) {
                throw new Fault(place);
            }
            open++;
        }

        Worth[] rule() {
            Worth[] rule = new Worth[3];
            for (int p = 0; p < 3; p++) {
                must(KEYS.get(p));
                rule[p] = or();
                must(";");
            }
            if (!token.isEmpty()) {
                throw new Fault(place);
            }
            return rule;
        }

        private Worth or() {
            Worth a = and();
            while (is("or")) {
                Worth b = a, c = and();
                a = n -> (b.of(n) != 0 | c.of(n) != 0) ? 1 : 0;
            }
            return a;
        }

        private Worth and() {
            Worth a = not();
            while (is("and")) {
                Worth b = a, c = not();
                a = n -> (b.of(n) != 0 & c.of(n) != 0) ? 1 : 0;
            }
            return a;
        }

        private Worth not() {
            if (token.equals("not")) {
                opens();
                is("not");
                Worth a = not();
                open--;
                return n -> a.of(n) == 0 ? 1 : 0;
            }
            Worth a = sum();
            if (is("<")) {
                Worth b = sum();
                return n -> a.of(n) < b.of(n) ? 1 : 0;
            }
            if (is("=")) {
                Worth b = sum();
                return n -> a.of(n) == b.of(n) ? 1 : 0;
            }
            return a;
        }

        private Worth sum() {
            Worth a = term();
            while (true) {
                Worth b = a;
                if (is("+")) {
                    Worth c = term();
                    a = n -> b.of(n) + c.of(n);
                } else if (is("-")) {
                    Worth c = term();
                    a = n -> b.of(n) - c.of(n);
                } else {
                    return a;
                }
            }
        }

        private Worth term() {
            Worth a = one();
            while (is("*")) {
                Worth b = a, c = one();
                a = n -> b.of(n) * c.of(n);
            }
            return a;
        }

        private Worth one() {
            if (token.equals("(")) {
                opens();
                is("(");
                Worth a = or();
                must(")");
                open--;
                return a;
            }
            if (token.equals("-")) {
                opens();
                is("-");
                Worth a = one();
                open--;
                return n -> -a.of(n);
            }
            int name = NAMES.indexOf(token);
            if (name >= 0) {
                is(token);
                return n -> n[name];
            }
            if (token.isEmpty() || !Character.isDigit(token.charAt(0)) || token.length() > 4) {
                throw new Fault(place);
            }
            int number = Integer.parseInt(token);
            is(token);
            return n -> number;
        }
    }

    /** The document, as plainly as it can be said. */
    private static final class Model {
        private List<int[]> ships = new ArrayList<>();
        private List<int[]> carts = new ArrayList<>();
        private List<int[]> masters = new ArrayList<>();
        private int[] plan = new int[24];
        private int hold = 1, walk = 3, rule = 0;
        private final List<Worth[]> texts = new ArrayList<>();
        private String tape = "";
        private final Object[] sheets = new Object[4];
        private Model image = null;

        Model() {
            texts.add(new Reading("ship waited * price ; cart waited * price ; change 1 ;").rule());
        }

        private static boolean in(int v, int low, int high) {
            return v >= low && v <= high;
        }

        List<int[]> ones(int sort) {
            return sort == 0 ? ships : carts;
        }

        int come(int sort, int what, int price) {
            if (!in(sort, 0, 1) || !in(what, 0, 299) || !in(what % 100, 0, 23) || !in(price, 0, 9)) {
                return -2;
            }
            if (ones(sort).size() == 4) {
                return -4;
            }
            ones(sort).add(new int[] {what / 100, what % 100, price});
            return ones(sort).size() - 1;
        }

        int set(int sort, int one, int what, int v) {
            if (!in(sort, 0, 1) || !in(one, 0, ones(sort).size() - 1) || !in(what, 0, 2) || !in(v, 0, new int[] {2, 23, 9}[what])) {
                return -2;
            }
            int was = ones(sort).get(one)[what];
            ones(sort).get(one)[what] = v;
            return was;
        }

        int law(int what, int of, int v) {
            int was = -2;
            if (what == 0 && in(v, 1, 4)) {
                was = hold;
                hold = v;
            } else if (what == 1 && in(v, 1, 9)) {
                was = walk;
                walk = v;
            } else if (what == 2 && in(of, 0, masters.size() - 1) && in(v, 0, 9)) {
                was = masters.get(of)[1];
                masters.get(of)[1] = v;
            }
            return was;
        }

        private static boolean goes(int sort, int[] one, int up) {
            return sort == 0 ? one[0] == up : one[0] != up;
        }

        private static int minute(int sort, int[] one, int[] row) {
            for (int m = one[1]; m < 24; m++) {
                if (goes(sort, one, row[m])) {
                    return m;
                }
            }
            return 24;
        }

        private int clip(int v) {
            return v < 0 ? 0 : v > 99 ? 99 : v;
        }

        private int many() {
            return ships.size() + carts.size();
        }

        private int costOf(int sort, int[] one, int minute) {
            return clip(texts.get(rule)[sort].of(new int[] {minute - one[1], one[2], minute, one[0], 0, many()}));
        }

        private int costOfChange(int minute, int was, int is) {
            return clip(texts.get(rule)[2].of(new int[] {0, 0, minute, is, was, many()}));
        }

        int cost(int[] row) {
            int sum = 0;
            for (int sort = 0; sort < 2; sort++) {
                for (int[] one : ones(sort)) {
                    sum += costOf(sort, one, minute(sort, one, row));
                }
            }
            for (int m = 1; m < 24; m++) {
                sum += row[m] != row[m - 1] ? costOfChange(m, row[m - 1], row[m]) : 0;
            }
            return sum;
        }

        int changes(int[] row) {
            int n = 0;
            for (int m = 1; m < 24; m++) {
                n += row[m] != row[m - 1] ? 1 : 0;
            }
            return n;
        }

        int through(int[] row) {
            int n = 0;
            for (int sort = 0; sort < 2; sort++) {
                for (int[] one : ones(sort)) {
                    n += minute(sort, one, row) < 24 ? 1 : 0;
                }
            }
            return n;
        }

        /** The first minute that is none, or in which the one ahead had not been up for HOLD minutes. */
        int unlawful(int[] row) {
            for (int m = 0; m < row.length; m++) {
                if (!in(row[m], 0, 2)) {
                    return m;
                }
                if (m > 0 && row[m] != row[m - 1]) {
                    for (int back = 1; back <= hold; back++) {
                        if (m - back < 0 || row[m - back] != row[m - 1]) {
                            return m;
                        }
                    }
                }
            }
            return -1;
        }

        int told(int sort, int one, int what) {
            if (!in(sort, 0, 1) || !in(one, 0, ones(sort).size() - 1) || !in(what, 0, 5)) {
                return -2;
            }
            int[] o = ones(sort).get(one);
            int m = minute(sort, o, plan);
            return what < 3 ? o[what] : what == 3 ? (m == 24 ? -1 : m) : what == 4 ? m - o[1] : costOf(sort, o, m);
        }

        int master(int kind, int number) {
            if (!in(kind, 0, 5) || !in(number, 0, 9)) {
                return -2;
            }
            if (masters.size() == 4) {
                return -4;
            }
            masters.add(new int[] {kind, number});
            return masters.size() - 1;
        }

        int feed(int letter) {
            if (!in(letter, 0, 255)) {
                return -2;
            }
            if (tape.length() == 160) {
                return -4;
            }
            tape += (char) letter;
            return tape.length();
        }

        int text() {
            if (texts.size() == 6) {
                return -4;
            }
            String text = tape;
            tape = "";
            try {
                texts.add(new Reading(text).rule());
                return texts.size() - 1;
            } catch (Fault fault) {
                return -100 - fault.place;
            }
        }

        int force(int text) {
            if (!in(text, 0, texts.size() - 1)) {
                return -2;
            }
            int was = rule;
            rule = text;
            return was;
        }

        int up(int minute, int bridge) {
            if (!in(minute, 0, 23) || !in(bridge, 0, 2)) {
                return -2;
            }
            int was = plan[minute];
            plan[minute] = bridge;
            return was;
        }

        int at(int minute) {
            return in(minute, 0, 23) ? plan[minute] : -2;
        }

        int plan(int what) {
            return what == 0 ? cost(plan) : what == 1 ? changes(plan) : what == 2 ? (unlawful(plan) == -1 ? 1 : 0) : what == 3 ? through(plan) : -2;
        }

        /** From a minute on: u is up in the one ahead for held minutes (4 at most), those in gone are through. */
        private int toCome(int m, int u, int held, int gone, boolean counting, Map<Integer, Integer> known) {
            if (m == 24) {
                int sum = 0;
                for (int sort = 0; sort < 2; sort++) {
                    for (int i = 0; i < ones(sort).size(); i++) {
                        if ((gone >> (sort * 4 + i) & 1) == 0) {
                            sum += counting ? 100000 : costOf(sort, ones(sort).get(i), 24);
                        }
                    }
                }
                return sum;
            }
            int key = ((m * 3 + u) * 5 + held) * 256 + gone;
            Integer old = known.get(key);
            if (old != null) {
                return old;
            }
            int least = Integer.MAX_VALUE;
            for (int b = 0; b < 3; b++) {
                if (b == u || held >= hold || m == 0) {
                    least = Math.min(least, step(m, u, held, gone, b, counting, known));
                }
            }
            known.put(key, least);
            return least;
        }

        private int step(int m, int u, int held, int gone, int b, boolean counting, Map<Integer, Integer> known) {
            int sum = m > 0 && b != u ? (counting ? 1 : costOfChange(m, u, b)) : 0;
            int then = gone;
            for (int sort = 0; sort < 2; sort++) {
                for (int i = 0; i < ones(sort).size(); i++) {
                    int[] one = ones(sort).get(i);
                    int bit = 1 << sort * 4 + i;
                    if ((gone & bit) == 0 && one[1] <= m && goes(sort, one, b)) {
                        then |= bit;
                        sum += counting ? 0 : costOf(sort, one, m);
                    }
                }
            }
            int now = m > 0 && b == u ? Math.min(4, held + 1) : 1;
            return sum + toCome(m + 1, b, now, then, counting, known);
        }

        private int[] leastRow() {
            Map<Integer, Integer> known = new HashMap<>();
            int[] row = new int[24];
            int u = 0, held = 0, gone = 0;
            for (int m = 0; m < 24; m++) {
                int due = toCome(m, u, held, gone, false, known);
                int b = 0;
                while (b != u && held < hold && m > 0 || step(m, u, held, gone, b, false, known) != due) {
                    b++;
                }
                for (int sort = 0; sort < 2; sort++) {
                    for (int i = 0; i < ones(sort).size(); i++) {
                        if (ones(sort).get(i)[1] <= m && goes(sort, ones(sort).get(i), b)) {
                            gone |= 1 << sort * 4 + i;
                        }
                    }
                }
                held = m > 0 && b == u ? Math.min(4, held + 1) : 1;
                u = b;
                row[m] = b;
            }
            return row;
        }

        int least(int what) {
            if (!in(what, 0, 25)) {
                return -2;
            }
            int[] row = leastRow();
            return what == 0 ? cost(row) : what == 1 ? changes(row) : row[what - 2];
        }

        int lay() {
            plan = leastRow();
            return cost(plan);
        }

        int fewest() {
            int n = toCome(0, 0, 0, 0, true, new HashMap<>());
            return n < 100000 ? n : -1;
        }

        private int[] runOf(int master) {
            int[] row = new int[24];
            Arrays.fill(row, -1);
            int u = 0;
            for (int m = 0; m < 24; m++) {
                int[][] sums = new int[2][3];
                for (int sort = 0; sort < 2; sort++) {
                    for (int[] one : ones(sort)) {
                        boolean waits = one[1] <= m;
                        for (int k = one[1]; k < m; k++) {
                            waits &= !goes(sort, one, row[k]);
                        }
                        sums[sort][one[0]] += waits ? one[2] : 0;
                    }
                }
                u = next(masters.get(master)[0], masters.get(master)[1], m, u, sums[0], sums[1]);
                row[m] = u;
            }
            return row;
        }

        private int next(int kind, int number, int m, int u, int[] s, int[] c) {
            if (kind == 1) {
                int most = Math.max(s[0], Math.max(s[1], s[2]));
                return most == 0 ? next(0, number, m, u, s, c) : s[0] == most ? 0 : s[1] == most ? 1 : 2;
            }
            if (kind == 2) {
                int few = Math.min(c[0], Math.min(c[1], c[2]));
                return c[0] == few ? 0 : c[1] == few ? 1 : 2;
            }
            if (kind == 3) {
                return s[u] == 0 ? next(1, number, m, u, s, c) : u;
            }
            if (kind == 4) {
                if (number % 2 != 0) {
                    return next(2, number, m, u, s, c);
                }
                int most = Math.max(s[0] - c[0], Math.max(s[1] - c[1], s[2] - c[2]));
                return s[0] - c[0] == most ? 0 : s[1] - c[1] == most ? 1 : 2;
            }
            if (kind == 5) {
                return m % 3 == 0 ? next(1, number, m, u, s, c) : u;
            }
            return m % (number + 1) == 0 ? (u + 1) % 3 : u;
        }

        int run(int master, int minute) {
            if (!in(master, 0, masters.size() - 1) || !in(minute, -1, 23)) {
                return -2;
            }
            return minute == -1 ? cost(runOf(master)) : runOf(master)[minute];
        }

        int follow(int master) {
            if (!in(master, 0, masters.size() - 1)) {
                return -2;
            }
            plan = runOf(master);
            return cost(plan);
        }

        int way(int cart, int what) {
            if (!in(cart, 0, carts.size() - 1) || !in(what, 0, 1)) {
                return -2;
            }
            int[] one = carts.get(cart);
            for (int m = 0; m < 24; m++) {
                for (int b = 0; b < 3; b++) {
                    if (m >= one[1] + walk * Math.abs(b - one[0]) && plan[m] != b) {
                        return what == 0 ? m : b;
                    }
                }
            }
            return -1;
        }

        int fourth(int bridge) {
            if (!in(bridge, 0, 2)) {
                return -2;
            }
            int less = 0;
            for (int[] one : carts) {
                less += one[0] == bridge ? costOf(1, one, minute(1, one, plan)) - costOf(1, one, one[1]) : 0;
            }
            return less;
        }

        int late(int n) {
            if (!in(n, 0, 24)) {
                return -2;
            }
            int bits = 0;
            for (int sort = 0; sort < 2; sort++) {
                for (int i = 0; i < ones(sort).size(); i++) {
                    bits |= told(sort, i, 4) > n ? 1 << sort * 4 + i : 0;
                }
            }
            return bits;
        }

        int blame(int what) {
            if (!in(what, 0, 2)) {
                return -2;
            }
            int[] best = {-1, -1, cost(plan)};
            for (int m = 0; m < 24; m++) {
                for (int b = 0; b < 3; b++) {
                    int[] row = plan.clone();
                    row[m] = b;
                    if (cost(row) < best[2]) {
                        best = new int[] {m, b, cost(row)};
                    }
                }
            }
            return best[0] == -1 ? -1 : best[what];
        }

        private static int size(Object sheet) {
            return java.lang.reflect.Array.getLength(sheet);
        }

        private static int item(Object sheet, int i) {
            return ((Number) java.lang.reflect.Array.get(sheet, i)).intValue();
        }

        private int telling(int sheet) {
            return !in(sheet, 0, 3) ? -2 : sheets[sheet] == null ? -11 : size(sheets[sheet]) > 24 ? -2 : 0;
        }

        int judge(int sheet) {
            if (telling(sheet) != 0) {
                return telling(sheet);
            }
            int[] row = new int[size(sheets[sheet])];
            for (int i = 0; i < row.length; i++) {
                row[i] = item(sheets[sheet], i);
            }
            return unlawful(row);
        }

        int who(int sheet) {
            if (telling(sheet) != 0) {
                return telling(sheet);
            }
            int bits = 0;
            for (int k = 0; k < masters.size(); k++) {
                boolean same = true;
                for (int i = 0; i < size(sheets[sheet]); i++) {
                    same &= runOf(k)[i] == item(sheets[sheet], i);
                }
                bits |= same ? 1 << k : 0;
            }
            return bits;
        }

        private static int[] drawnRow(int seed) {
            int[] row = new int[24];
            int z = seed;
            for (int m = 0; m < 24; m++) {
                z = z * 1103515245 + 12345;
                row[m] = (z >>> 8) % 3;
            }
            return row;
        }

        int drawn(int seed) {
            return cost(drawnRow(seed));
        }

        long chance(int seed, int n, int part) {
            if (!in(n, 1, 20) || !in(part, 0, 1)) {
                return -4611686018427387904L;
            }
            int hits = 0;
            for (int k = 0; k < n; k++) {
                hits += through(drawnRow(seed + k)) == many() ? 1 : 0;
            }
            int d = java.math.BigInteger.valueOf(hits).gcd(java.math.BigInteger.valueOf(n)).intValue();
            return part == 0 ? hits / d : n / d;
        }

        private static List<int[]> deep(List<int[]> rows) {
            List<int[]> copy = new ArrayList<>();
            for (int[] row : rows) {
                copy.add(row.clone());
            }
            return copy;
        }

        private void take(Model other) {
            ships = deep(other.ships);
            carts = deep(other.carts);
            masters = deep(other.masters);
            plan = other.plan.clone();
            hold = other.hold;
            walk = other.walk;
            rule = other.rule;
        }

        int image() {
            image = new Model();
            image.take(this);
            return many();
        }

        int back() {
            if (image == null) {
                return -3;
            }
            take(image);
            return many();
        }

        int count(int what) {
            return in(what, 0, 7) ? new int[] {ships.size(), carts.size(), masters.size(), hold, walk, texts.size(), tape.length(), rule}[what] : -2;
        }

        int sheet(int sheet, int sort, int n) {
            if (!in(sheet, 0, 3) || !in(sort, -1, 2)) {
                return -2;
            }
            if (sort == -1) {
                sheets[sheet] = null;
                return 1;
            }
            if (n > 40) {
                return -2;
            }
            if (n < 0) {
                return -14;
            }
            sheets[sheet] = sort == 0 ? new byte[n] : sort == 1 ? new short[n] : new int[n];
            return 1;
        }

        int cell(int sheet, int i, int v) {
            if (!in(sheet, 0, 3)) {
                return -2;
            }
            Object s = sheets[sheet];
            if (s == null) {
                return -11;
            }
            if (!in(i, 0, size(s) - 1)) {
                return -12;
            }
            if (s instanceof byte[]) {
                ((byte[]) s)[i] = (byte) v;
            } else if (s instanceof short[]) {
                ((short[]) s)[i] = (short) v;
            } else {
                ((int[]) s)[i] = v;
            }
            return 1;
        }

        int copy(int sheet, int i, int other, int j, int n) {
            if (!in(sheet, 0, 3) || !in(other, 0, 3)) {
                return -2;
            }
            if (sheets[sheet] == null || sheets[other] == null) {
                return -11;
            }
            try {
                System.arraycopy(sheets[sheet], i, sheets[other], j, n);
                return n;
            } catch (ArrayStoreException unlike) {
                return -13;
            } catch (IndexOutOfBoundsException outside) {
                return -12;
            }
        }

        int comes(int sheet, int sort, int from, int n) {
            if (!in(sheet, 0, 3) || !in(sort, 0, 2) || !in(n, 0, 8)) {
                return -2;
            }
            Object s = sheets[sheet];
            if (s == null) {
                return -11;
            }
            if (s instanceof byte[] ? sort != 0 : s instanceof short[] ? sort != 1 : sort != 2) {
                return -13;
            }
            int came = 0;
            for (int k = 0; k < n; k++) {
                long i = from + 3L * k;
                if (i < 0 || i + 2 >= size(s)) {
                    return -12;
                }
                came += come(item(s, (int) i), item(s, (int) i + 1), item(s, (int) i + 2)) >= 0 ? 1 : 0;
            }
            return came;
        }

        int taken(int master, int k) {
            if (!in(k, 0, 5)) {
                return -2;
            }
            if (!in(master, 0, masters.size() - 1)) {
                return -11;
            }
            int kind = masters.get(master)[0];
            boolean under = k == kind || k == 0 || k == 1 && (kind == 3 || kind == 5) || k == 2 && kind == 4;
            return under ? masters.get(master)[1] : -13;
        }
    }
}
