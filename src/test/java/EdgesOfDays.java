/** Promises 22 to 28, sentence by sentence: what was seen of a day, days that are drawn, images, counts. */
public final class EdgesOfDays extends Due {
    public static void main(String[] args) {
        judgeRefusals();
        judgeSize();
        judgeNoBridge();
        judgeHold();
        judgeFirst();
        whoRefusals();
        whoBits();
        whoAsFarAsItTells();
        whoNoBridge();
        drawn();
        drawnWraps();
        chanceEnds();
        chanceSeeds();
        chanceLowestTerms();
        imageEmpty();
        imageStands();
        backState();
        backKeeps();
        backLeaves();
        backGone();
        backOften();
        count();
        end();
    }

    /** A sheet of ints for each place of a text. */
    private static void tellRow(OneAlwaysUp x, int sheet, String row) {
        x.sheet(sheet, 2, row.length());
        for (int i = 0; i < row.length(); i++) {
            x.cell(sheet, i, row.charAt(i) - '0');
        }
    }

    private static int judged(int hold, String row) {
        OneAlwaysUp x = new OneAlwaysUp();
        x.law(0, 0, hold);
        tellRow(x, 1, row);
        return x.judge(1);
    }

    private static void judgeRefusals() {
        by(22, "BAD: SHEET; -11; BAD: it tells more than 24");
        OneAlwaysUp x = new OneAlwaysUp();
        for (int s : beyond(0, 3)) {
            due("judge(" + s + ")", x.judge(s), BAD);
        }
        for (int s = 0; s < 4; s++) {
            due("missing", x.judge(s), NOTHING);
            for (int sort = 0; sort < 3; sort++) {
                x.sheet(s, sort, 25);
                due("25 of sort " + sort, x.judge(s), BAD);
                x.sheet(s, sort, 40);
                due("40 of sort " + sort, x.judge(s), BAD);
                x.sheet(s, sort, 24);
                due("24 of sort " + sort, x.judge(s), NONE);
            }
            x.sheet(s, -1, 0);
            due("missing again", x.judge(s), NOTHING);
        }
    }

    private static void judgeSize() {
        by(22, "a SHEET tells BRIDGES that are UP in MINUTES 0, 1, ..: NONE");
        for (int n = 0; n <= 24; n++) {
            due(n + " that are 2", judged(4, "2".repeat(n)), NONE);
        }
        due("the last of 24", judged(4, "0".repeat(23) + "3"), 23);
        due("the first of 24", judged(4, "3" + "0".repeat(23)), 0);
        due("the last of 24, too soon", judged(4, "0".repeat(20) + "1112"), 23);
    }

    private static void judgeNoBridge() {
        by(22, "the first MINUTE for which it tells no BRIDGE");
        OneAlwaysUp x = new OneAlwaysUp();
        for (int sort = 0; sort < 3; sort++) {
            for (int v : new int[] {-1, 3, 100, -128}) {
                tell(x, 0, sort, 0, 1, v, v);
                due(v + " in sort " + sort, x.judge(0), 2);
            }
            for (int v = 0; v < 3; v++) {
                tell(x, 0, sort, v);
                due(v + " in sort " + sort, x.judge(0), NONE);
            }
        }
        tell(x, 0, 2, 0, MIN);
        due("MIN", x.judge(0), 1);
        tell(x, 0, 2, MAX);
        due("MAX", x.judge(0), 0);
        by(22, "no BRIDGE, whether the one ahead was UP for HOLD MINUTES or not");
        due("too soon, too", judged(4, "0003"), 3);
        due("not too soon", judged(3, "0003"), 3);
        due("the same twice", judged(1, "33"), 0);
    }

    private static void judgeHold() {
        by(22, "another one than for the one ahead, which wasn't UP for HOLD MINUTES yet");
        for (int hold = 1; hold <= 4; hold++) {
            for (int n = 1; n <= 5; n++) {
                due("0 for " + n + " of " + hold + " from 0 on", judged(hold, "0".repeat(n) + "1"), n < hold ? n : NONE);
                due("2 for " + n + " of " + hold + " from 5 on", judged(hold, "11111" + "2".repeat(n) + "1"), n < hold ? 5 + n : NONE);
                due("2 for " + n + " of " + hold + ", as far as it tells", judged(hold, "11111" + "2".repeat(n)), NONE);
            }
        }
    }

    private static void judgeFirst() {
        by(22, "the first MINUTE");
        due("two too soon", judged(2, "0012012"), 3);
        due("no BRIDGE ahead of one too soon", judged(2, "0030100"), 2);
        due("one too soon ahead of no BRIDGE", judged(2, "0010300"), 3);
        due("0 again for too short", judged(3, "000111001"), 8);
    }

    private static void whoRefusals() {
        by(23, "BAD: SHEET; -11; BAD: it tells more than 24");
        OneAlwaysUp x = new OneAlwaysUp();
        x.master(2, 0);
        for (int s : beyond(0, 3)) {
            due("who(" + s + ")", x.who(s), BAD);
        }
        for (int s = 0; s < 4; s++) {
            due("missing", x.who(s), NOTHING);
            for (int sort = 0; sort < 3; sort++) {
                x.sheet(s, sort, 25);
                due("25 of sort " + sort, x.who(s), BAD);
                x.sheet(s, sort, 40);
                due("40 of sort " + sort, x.who(s), BAD);
                x.sheet(s, sort, 24);
                due("24 of sort " + sort, x.who(s), 1);
            }
            x.sheet(s, -1, 0);
            due("missing again", x.who(s), NOTHING);
        }
    }

    private static void whoBits() {
        by(23, "MASTERS (bits)");
        OneAlwaysUp x = new OneAlwaysUp();
        x.sheet(0, 0, 24);
        due("no MASTERS", x.who(0), 0);
        for (int n = 0; n < 4; n++) {
            x.master(2, n);
            due("MASTERS " + (n + 1), x.who(0), (2 << n) - 1);
        }
        for (int n = 0; n < 4; n++) {
            x = new OneAlwaysUp();
            x.sheet(0, 0, 24);
            for (int k = 0; k < 4; k++) {
                x.master(k == n ? 2 : 0, 9);
            }
            due("MASTER " + n + " alone", x.who(0), 1 << n);
        }
    }

    private static void whoAsFarAsItTells() {
        by(23, "whose RUN is as a SHEET tells it, as far as it tells");
        for (int n = 0; n <= 24; n++) {
            OneAlwaysUp x = new OneAlwaysUp();
            x.master(0, 4);
            tellRun(x, 0, n % 3, 0, n);
            due(n + " of its RUN", x.who(0), 1);
            if (n > 0) {
                x.cell(0, n - 1, (x.run(0, n - 1) + 1) % 3);
                due("another one in the last of " + n, x.who(0), 0);
                x.cell(0, n - 1, x.run(0, n - 1));
                x.cell(0, 0, 2);
                due("another one in the first of " + n, x.who(0), 0);
            }
        }
        OneAlwaysUp x = new OneAlwaysUp();
        x.master(0, 4);
        x.master(0, 9);
        tellRow(x, 0, "11111");
        due("both till 4", x.who(0), 3);
        tellRow(x, 0, "111112");
        due("one in 5", x.who(0), 1);
        tellRow(x, 0, "111111");
        due("the other in 5", x.who(0), 2);
    }

    private static void whoNoBridge() {
        by(23, "a SHEET that tells no BRIDGE, or one too soon");
        OneAlwaysUp x = new OneAlwaysUp();
        x.master(0, 0);
        x.law(0, 0, 4);
        tellRow(x, 0, "120");
        due("HOLD does not matter", x.who(0), 1);
        tellRow(x, 0, "123");
        due("3 is not 0", x.who(0), 0);
        tell(x, 0, 2, 1, 2, 256);
        due("256 of ints is not 0", x.who(0), 0);
        tell(x, 0, 0, 257, 258, 256);
        due("256 of bytes is 0", x.who(0), 1);
    }

    /** The document's z, as a row of BRIDGES. */
    private static String drawnRow(int seed) {
        StringBuilder row = new StringBuilder();
        long z = seed;
        for (int m = 0; m < 24; m++) {
            // by a long, of which the lowest 32 bits are kept
            z = z * 1103515245L + 12345L & 0xffffffffL;
            row.append((z >> 8) % 3);
        }
        return row.toString();
    }

    private static void drawn() {
        by(24, "for each MINUTE z = z * 1103515245 + 12345, the BRIDGE (z >>> 8) % 3: its COST");
        for (int seed : new int[] {0, 1, -1, 5, -77, 12345, MIN, MAX, MIN + 1, MAX - 1, 1 << 16, -(1 << 30)}) {
            OneAlwaysUp x = ruled("ship 1+waited;cart waited*2;change minute+bridge*9-was;");
            x.come(0, 103, 5);
            x.come(0, 222, 5);
            x.come(1, 7, 5);
            x.come(1, 118, 5);
            int got = x.drawn(seed);
            dueRow("THE PLAN", planRow(x), "0".repeat(24));
            lay(x, drawnRow(seed));
            due("drawn(" + seed + ")", got, x.plan(0));
        }
    }

    private static void drawnWraps() {
        by(24, "an int");
        // a z below 0 is shifted without its sign: 1103527590 >>> 8 is 4310654, which is 2 modulo 3
        OneAlwaysUp x = ruled("ship minute;cart 0;change 0;");
        x.come(0, 200, 0);
        due("seed 1: 2 is UP in 0", x.drawn(1), 0);
        due("(1103515245 + 12345 >>> 8) % 3", (1103515245 + 12345 >>> 8) % 3, 2);
        int z = 2 * 1103515245 + 12345;
        due("seed 2 goes below 0", z < 0 ? 1 : 0, 1);
        x.set(0, 0, 0, (int) ((z & 0xffffffffL) >> 8) % 3);
        due("seed 2", x.drawn(2), 0);
    }

    private static void chanceEnds() {
        by(25, "n seeds (1 .. 20), part 0, 1; NO: n, part");
        OneAlwaysUp x = new OneAlwaysUp();
        for (int n : new int[] {1, 20}) {
            due("part 0 of " + n, x.chance(0, n, 0), 1);
            due("part 1 of " + n, x.chance(0, n, 1), 1);
            for (int part : beyond(0, 1)) {
                due("chance(0, " + n + ", " + part + ")", x.chance(0, n, part), OneAlwaysUp.NO);
            }
        }
        for (int n : beyond(1, 20)) {
            due("chance(0, " + n + ", 0)", x.chance(0, n, 0), OneAlwaysUp.NO);
            due("chance(0, " + n + ", 1)", x.chance(0, n, 1), OneAlwaysUp.NO);
            due("chance(0, " + n + ", 2)", x.chance(0, n, 2), OneAlwaysUp.NO);
        }
        due("NO", OneAlwaysUp.NO, -4611686018427387904L);
    }

    /** How many of n seeds have BRIDGE b UP in MINUTE 23. */
    private static int hits(int seed, int n, int b) {
        int hits = 0;
        for (int k = 0; k < n; k++) {
            hits += drawnRow(seed + k).charAt(23) - '0' == b ? 1 : 0;
        }
        return hits;
    }

    private static void chanceSeeds() {
        by(25, "SEED and each 1 more (an int)");
        for (int seed : new int[] {0, -5, MAX, MAX - 9, MIN, MAX - 19, MAX - 18}) {
            for (int b = 0; b < 3; b++) {
                OneAlwaysUp x = new OneAlwaysUp();
                x.come(0, 100 * b + 23, 0);
                for (int n : new int[] {1, 2, 19, 20}) {
                    long above = x.chance(seed, n, 0);
                    long below = x.chance(seed, n, 1);
                    due("chance(" + seed + ", " + n + ", ..) at " + b, above * n, hits(seed, n, b) * below);
                }
            }
        }
        by(25, "those by which all are THROUGH");
        OneAlwaysUp x = new OneAlwaysUp();
        x.come(1, 23, 0);
        x.come(0, 123, 0);
        due("the ship's are the cart's, too", x.chance(3, 20, 0) * 20, hits(3, 20, 1) * x.chance(3, 20, 1));
        x.set(0, 0, 0, 0);
        due("never both", x.chance(3, 20, 0), 0);
    }

    private static void chanceLowestTerms() {
        by(25, "in lowest terms");
        int reduced = 0;
        OneAlwaysUp x = new OneAlwaysUp();
        x.come(0, 23, 0);
        for (int n = 1; n <= 20; n++) {
            for (int seed = 0; seed < 12; seed++) {
                int above = hits(seed, n, 0);
                int d = n;
                while (above % d != 0 || n % d != 0) {
                    d--;
                }
                reduced += d > 1 && above > 0 && above < n ? 1 : 0;
                if (seed % 2 == 0) {
                    due("above, " + above + " of " + n, x.chance(seed, n, 0), above / d);
                    due("below, " + above + " of " + n, x.chance(seed, n, 1), n / d);
                }
            }
        }
        due("some are to be reduced", reduced > 10 ? 1 : 0, 1);
        x.come(0, 123, 0);
        due("none: 0 above", x.chance(0, 20, 0), 0);
        due("none: 1 below", x.chance(0, 20, 1), 1);
        x = new OneAlwaysUp();
        due("all: 1 above", x.chance(0, 20, 0), 1);
        due("all: 1 below", x.chance(0, 20, 1), 1);
    }

    private static void imageEmpty() {
        by(26, "AN IMAGE is kept: how many SHIPS and CARTS");
        OneAlwaysUp x = new OneAlwaysUp();
        due("none", x.image(), 0);
        due("back()", x.back(), 0);
        for (int n = 1; n <= 8; n++) {
            x.come(n % 2, 0, 0);
            due("image()", x.image(), n);
            due("back()", x.back(), n);
        }
        x.master(0, 0);
        due("MASTERS are not counted", x.image(), 8);
    }

    private static void imageStands() {
        by(26, "what is done behind image() is not in it");
        OneAlwaysUp x = new OneAlwaysUp();
        x.come(0, 100, 1);
        x.image();
        x.set(0, 0, 2, 9);
        x.up(3, 1);
        x.come(0, 0, 0);
        due("back()", x.back(), 1);
        due("PRICE", x.told(0, 0, 2), 1);
        due("at(3)", x.at(3), 0);
        by(26, "a later image is kept in the earlier one's place");
        x.set(0, 0, 2, 5);
        x.up(4, 2);
        due("image()", x.image(), 1);
        x.set(0, 0, 2, 6);
        x.up(4, 0);
        due("back()", x.back(), 1);
        due("PRICE", x.told(0, 0, 2), 5);
        due("at(4)", x.at(4), 2);
    }

    private static void backState() {
        by(27, "STATE: there is none");
        OneAlwaysUp x = new OneAlwaysUp();
        due("back()", x.back(), STATE);
        x.come(0, 102, 3);
        x.up(5, 2);
        due("back()", x.back(), STATE);
        due("count(0)", x.count(0), 1);
        due("at(5)", x.at(5), 2);
        x.image();
        due("back()", x.back(), 1);
    }

    private static void backKeeps() {
        by(27, "THE PLAN, BRIDGES, FROM, PRICES of SHIPS and CARTS, HOLD, WALK, NUMBERS, THE RULE");
        OneAlwaysUp x = fullDay();
        x.image();
        for (int m = 0; m < 24; m++) {
            x.up(m, 1);
        }
        for (int sort = 0; sort < 2; sort++) {
            for (int n = 0; n < 4; n++) {
                for (int what = 0; what < 3; what++) {
                    x.set(sort, n, what, 0);
                }
            }
        }
        for (int n = 0; n < 4; n++) {
            x.law(2, n, 0);
        }
        x.law(0, 0, 1);
        x.law(1, 0, 9);
        x.force(0);
        due("back()", x.back(), 8);
        OneAlwaysUp y = fullDay();
        y.image();
        dueRow("all that can be seen", portrait(x), portrait(y));
    }

    private static void backLeaves() {
        by(27, "TEXTS, THE TAPE and SHEETS are not in THE IMAGE");
        OneAlwaysUp x = new OneAlwaysUp();
        x.feed('s');
        x.image();
        x.feed('h');
        tell(x, 2, 1, 1, 1, 9);
        due("back()", x.back(), 0);
        due("count(6)", x.count(6), 2);
        due("judge(2)", x.judge(2), 2);
        due("text()", x.text(), -100);
        read(x, "ship 1;cart 1;change 1;");
        due("force(1)", x.force(1), 0);
        due("back()", x.back(), 0);
        due("THE RULE is TEXT 0 again", x.count(7), 0);
        due("but there are 2 TEXTS", x.count(5), 2);
        due("force(1)", x.force(1), 0);
    }

    private static void backGone() {
        by(27, "SHIPS, CARTS, MASTERS that came since go");
        OneAlwaysUp x = new OneAlwaysUp();
        x.come(0, 101, 1);
        x.come(1, 202, 2);
        x.master(3, 3);
        x.image();
        for (int n = 1; n < 4; n++) {
            x.come(0, 0, 0);
            x.come(1, 0, 0);
            x.master(5, 5);
        }
        due("a fifth", x.come(0, 0, 0), FULL);
        due("back()", x.back(), 2);
        for (int what = 0; what < 3; what++) {
            due("count(" + what + ")", x.count(what), 1);
        }
        due("told(0, 1, 0)", x.told(0, 1, 0), BAD);
        due("told(1, 1, 0)", x.told(1, 1, 0), BAD);
        due("taken(1, 0)", x.taken(1, 0), NOTHING);
        due("run(1, 0)", x.run(1, 0), BAD);
        due("late(0)", x.late(0), 1);
        due("plan(3)", x.plan(3), 1);
        by(27, "their numbers are for the next ones, that are new");
        due("a ship", x.come(0, 205, 5), 1);
        due("its BRIDGE", x.told(0, 1, 0), 2);
        due("a cart", x.come(1, 6, 6), 1);
        due("its FROM", x.told(1, 1, 1), 6);
        due("a MASTER", x.master(4, 7), 1);
        due("its KIND", x.taken(1, 4), 7);
        due("its KIND", x.taken(1, 5), UNLIKE);
    }

    private static void backOften() {
        by(27, "THE IMAGE stays");
        OneAlwaysUp x = halfDay();
        due("back()", x.back(), 2);
        due("back()", x.back(), 2);
        x.set(0, 0, 2, 9);
        x.up(7, 0);
        x.law(2, 0, 9);
        due("back()", x.back(), 2);
        due("PRICE", x.told(0, 0, 2), 5);
        due("at(7)", x.at(7), 1);
        due("NUMBER", x.taken(0, 0), 3);
        due("plan(0)", x.plan(0), 5 * 5 + 2);
    }

    private static void count() {
        by(28, "0 SHIPS .. 7 THE RULE; BAD");
        OneAlwaysUp x = fullDay();
        int[] want = {4, 4, 4, 3, 3, 6, 1, 4};
        for (int what = 0; what < 8; what++) {
            due("count(" + what + ")", x.count(what), want[what]);
        }
        for (int what : beyond(0, 7)) {
            due("count(" + what + ")", x.count(what), BAD);
        }
        x = new OneAlwaysUp();
        want = new int[] {0, 0, 0, 1, 3, 1, 0, 0};
        for (int what = 0; what < 8; what++) {
            due("of a new object: count(" + what + ")", x.count(what), want[what]);
        }
    }
}
