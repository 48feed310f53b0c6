/** For each promise of the document ordinary calls, the edges that it names, and wrong numbers. */
public final class Promises extends Due {
    public static void main(String[] args) {
        newObject();
        come();
        set();
        law();
        told();
        master();
        feed();
        text();
        faults();
        worth();
        force();
        upAndAt();
        plan();
        least();
        leastByTexts();
        lay();
        fewest();
        run();
        follow();
        way();
        fourth();
        late();
        blame();
        judge();
        who();
        drawn();
        chance();
        image();
        back();
        count();
        sheet();
        cell();
        copy();
        comes();
        taken();
        end();
    }

    private static void newObject() {
        by(1, "");
        OneAlwaysUp x = new OneAlwaysUp();
        int[] counts = {0, 0, 0, 1, 3, 1, 0, 0};
        for (int what = 0; what < 8; what++) {
            due("count(" + what + ")", x.count(what), counts[what]);
        }
        dueRow("the plan", planRow(x), "000000000000000000000000");
        due("plan(0)", x.plan(0), 0);
        due("judge(0)", x.judge(0), -11);
        due("back()", x.back(), -3);
        due("NONE", OneAlwaysUp.NONE, -1);
        due("BAD", OneAlwaysUp.BAD, -2);
        due("STATE", OneAlwaysUp.STATE, -3);
        due("FULL", OneAlwaysUp.FULL, -4);
        due("NO", OneAlwaysUp.NO, -4611686018427387904L);
    }

    private static void come() {
        by(2, "");
        OneAlwaysUp x = new OneAlwaysUp();
        due("come(0, 0, 0)", x.come(0, 0, 0), 0);
        due("come(0, 223, 9)", x.come(0, 223, 9), 1);
        due("come(1, 117, 4)", x.come(1, 117, 4), 0);
        due("told(0, 1, 0)", x.told(0, 1, 0), 2);
        due("told(0, 1, 1)", x.told(0, 1, 1), 23);
        due("told(0, 1, 2)", x.told(0, 1, 2), 9);
        due("told(1, 0, 0)", x.told(1, 0, 0), 1);
        due("told(1, 0, 1)", x.told(1, 0, 1), 17);
        int[][] bad = {{-1, 0, 0}, {2, 0, 0}, {0, -1, 0}, {0, -100, 0}, {0, 24, 0}, {0, 99, 0}, {0, 124, 0}, {0, 224, 0}, {0, 300, 0},
            {0, Integer.MAX_VALUE, 0}, {0, Integer.MIN_VALUE, 0}, {0, 0, -1}, {0, 0, 10}, {1, 0, Integer.MIN_VALUE}};
        for (int[] b : bad) {
            due("come(" + b[0] + ", " + b[1] + ", " + b[2] + ")", x.come(b[0], b[1], b[2]), -2);
        }
        x.come(0, 1, 1);
        due("come(0, 2, 2)", x.come(0, 2, 2), 3);
        due("a fifth ship", x.come(0, 0, 0), -4);
        due("a fifth ship of no price: BAD goes ahead of FULL", x.come(0, 0, 10), -2);
        due("carts have room of their own", x.come(1, 0, 0), 1);
        due("count(0)", x.count(0), 4);
        due("count(1)", x.count(1), 2);
    }

    private static void set() {
        by(3, "");
        OneAlwaysUp x = new OneAlwaysUp();
        x.come(0, 102, 5);
        x.come(1, 203, 6);
        due("set(0, 0, 0, 2)", x.set(0, 0, 0, 2), 1);
        due("set(0, 0, 1, 23)", x.set(0, 0, 1, 23), 2);
        due("set(0, 0, 2, 9)", x.set(0, 0, 2, 9), 5);
        due("set(1, 0, 0, 0)", x.set(1, 0, 0, 0), 2);
        due("set(1, 0, 1, 0)", x.set(1, 0, 1, 0), 3);
        due("set(1, 0, 2, 0)", x.set(1, 0, 2, 0), 6);
        int[][] bad = {{-1, 0, 0, 0}, {2, 0, 0, 0}, {0, -1, 0, 0}, {0, 1, 0, 0}, {1, 1, 0, 0}, {0, 4, 0, 0}, {0, 0, -1, 0}, {0, 0, 3, 0},
            {0, 0, 0, -1}, {0, 0, 0, 3}, {0, 0, 1, -1}, {0, 0, 1, 24}, {0, 0, 2, -1}, {0, 0, 2, 10}};
        for (int[] b : bad) {
            due("set(" + b[0] + ", " + b[1] + ", " + b[2] + ", " + b[3] + ")", x.set(b[0], b[1], b[2], b[3]), -2);
        }
        int[] ship = {2, 23, 9};
        for (int what = 0; what < 3; what++) {
            due("told(0, 0, " + what + ")", x.told(0, 0, what), ship[what]);
            due("told(1, 0, " + what + ")", x.told(1, 0, what), 0);
        }
    }

    private static void law() {
        by(4, "");
        OneAlwaysUp x = new OneAlwaysUp();
        due("law(0, 0, 4)", x.law(0, 0, 4), 1);
        due("law(0, 0, 1)", x.law(0, 0, 1), 4);
        due("law(0, 99, 2): of whom does not matter", x.law(0, 99, 2), 1);
        due("law(1, -5, 9)", x.law(1, -5, 9), 3);
        due("law(1, 0, 1)", x.law(1, 0, 1), 9);
        due("law(2, 0, 0)", x.law(2, 0, 0), -2);
        x.master(0, 7);
        x.master(1, 8);
        due("law(2, 1, 0)", x.law(2, 1, 0), 8);
        due("law(2, 1, 9)", x.law(2, 1, 9), 0);
        due("law(2, 0, 3)", x.law(2, 0, 3), 7);
        int[][] bad = {{-1, 0, 1}, {3, 0, 1}, {0, 0, 0}, {0, 0, 5}, {1, 0, 0}, {1, 0, 10}, {2, -1, 1}, {2, 2, 1}, {2, 0, -1}, {2, 0, 10}};
        for (int[] b : bad) {
            due("law(" + b[0] + ", " + b[1] + ", " + b[2] + ")", x.law(b[0], b[1], b[2]), -2);
        }
        due("count(3)", x.count(3), 2);
        due("count(4)", x.count(4), 1);
        due("taken(0, 0)", x.taken(0, 0), 3);
    }

    private static void told() {
        by(5, "");
        OneAlwaysUp x = new OneAlwaysUp();
        x.come(0, 105, 2);
        x.come(1, 4, 3);
        x.come(0, 20, 9);
        lay(x, "000000000111111111111112");
        due("told(0, 0, 3)", x.told(0, 0, 3), 9);
        due("told(0, 0, 4)", x.told(0, 0, 4), 4);
        due("told(0, 0, 5)", x.told(0, 0, 5), 8);
        due("told(1, 0, 3)", x.told(1, 0, 3), 9);
        due("told(1, 0, 4)", x.told(1, 0, 4), 5);
        due("told(1, 0, 5)", x.told(1, 0, 5), 15);
        due("told(0, 1, 3)", x.told(0, 1, 3), -1);
        due("told(0, 1, 4)", x.told(0, 1, 4), 4);
        due("told(0, 1, 5)", x.told(0, 1, 5), 36);
        x.up(23, 0);
        due("told(0, 1, 3) in the last minute", x.told(0, 1, 3), 23);
        due("told(0, 1, 4) in the last minute", x.told(0, 1, 4), 3);
        x.set(0, 1, 1, 2);
        due("told(0, 1, 3) in its own minute", x.told(0, 1, 3), 2);
        due("told(0, 1, 5) in its own minute", x.told(0, 1, 5), 0);
        int[][] bad = {{-1, 0, 0}, {2, 0, 0}, {0, -1, 0}, {0, 2, 0}, {1, 1, 0}, {0, 0, -1}, {0, 0, 6}};
        for (int[] b : bad) {
            due("told(" + b[0] + ", " + b[1] + ", " + b[2] + ")", x.told(b[0], b[1], b[2]), -2);
        }
    }

    private static void master() {
        by(6, "");
        OneAlwaysUp x = new OneAlwaysUp();
        due("master(-1, 0)", x.master(-1, 0), -2);
        due("master(6, 0)", x.master(6, 0), -2);
        due("master(0, -1)", x.master(0, -1), -2);
        due("master(0, 10)", x.master(0, 10), -2);
        due("count(2)", x.count(2), 0);
        due("master(5, 9)", x.master(5, 9), 0);
        due("master(0, 0)", x.master(0, 0), 1);
        due("master(4, 1)", x.master(4, 1), 2);
        due("master(1, 2)", x.master(1, 2), 3);
        due("a fifth", x.master(1, 2), -4);
        due("a fifth that is none: BAD goes ahead of FULL", x.master(6, 2), -2);
        due("count(2)", x.count(2), 4);
    }

    private static void feed() {
        by(7, "");
        OneAlwaysUp x = new OneAlwaysUp();
        due("feed(-1)", x.feed(-1), -2);
        due("feed(256)", x.feed(256), -2);
        due("feed(0)", x.feed(0), 1);
        due("feed(255)", x.feed(255), 2);
        for (int n = 3; n <= 160; n++) {
            due("feed(32)", x.feed(32), n);
        }
        due("a byte too many", x.feed(32), -4);
        due("one that is none: BAD goes ahead of FULL", x.feed(256), -2);
        due("count(6)", x.count(6), 160);
        due("text()", x.text(), -100);
        due("feed(1)", x.feed(1), 1);
    }

    private static void text() {
        by(8, "");
        OneAlwaysUp x = new OneAlwaysUp();
        due("an empty tape", x.text(), -100);
        due(FIRST, read(x, FIRST), 1);
        due("count(6)", x.count(6), 0);
        due("a fault empties the tape too", read(x, "ship 1 ; carts"), -109);
        due("count(6)", x.count(6), 0);
        due("count(5)", x.count(5), 2);
        due("tokens side by side", read(x, "ship1;cart2;change3;"), 2);
        due("blanks", read(x, "\n ship\n1 \n ;cart 2;change\n\n3 ; \n"), 3);
        due("all signs", read(x, "ship not(1<2)and-waited=3or many*(price+was-minute);cart bridge;change(0);"), 4);
        StringBuilder full = new StringBuilder("ship 1 ; cart 2 ; change 3");
        while (full.length() < 159) {
            full.append("+1");
        }
        full.setLength(158);
        full.append(" ;");
        due("a tape that is full", read(x, full.toString()), 5);
        due("count(5)", x.count(5), 6);
        x.feed('?');
        due("no room for a text more", x.text(), -4);
        due("the tape stays", x.count(6), 1);
        due("force(5)", x.force(5), 0);
        due("drawn(1): sixteen changes that cost 69 each", x.drawn(1), 16 * 69);
    }

    private static void fault(String text, int place) {
        OneAlwaysUp x = new OneAlwaysUp();
        due("the fault of " + text, read(x, text), -100 - place);
        due("count(5)", x.count(5), 1);
    }

    private static void faults() {
        by(8, "");
        fault("   ", 3);
        fault("ship", 4);
        fault("ship ", 5);
        fault("ship 1", 6);
        fault("ship 1 ; cart 2 ; change 3", 26);
        fault("cart 1 ; ship 2 ; change 3 ;", 0);
        fault("ship 1 ; change 2 ; cart 3 ;", 9);
        fault("ship 1 ; cart 2 ; change 3 ; ;", 29);
        fault("ship 1 ; cart 2 ; change 3 ;  x", 30);
        fault("ship ; cart 2 ; change 3 ;", 5);
        fault("ship 1 2 ; cart 2 ; change 3 ;", 7);
        fault("ship waits ; cart 2 ; change 3 ;", 5);
        fault("ship waitedprice ; cart 2 ; change 3 ;", 5);
        fault("ship waitedz ; cart 2 ; change 3 ;", 5);
        fault("ship awaited ; cart 2 ; change 3 ;", 5);
        fault("ship hot 1 ; cart 2 ; change 3 ;", 5);
        fault("chip 1 ; cart 2 ; change 3 ;", 0);
        fault("ship `1 ; cart 2 ; change 3 ;", 5);
        fault("ship {1 ; cart 2 ; change 3 ;", 5);
        fault("ship 1: ; cart 2 ; change 3 ;", 6);
        fault("ships 1 ; cart 2 ; change 3 ;", 0);
        fault("ship Waited ; cart 2 ; change 3 ;", 5);
        fault("ship 1 ;\tcart 2 ; change 3 ;", 8);
        fault("ship 1 ; cart 2 ; change 3 ;\r", 28);
        fault("ship 1 / 2 ; cart 2 ; change 3 ;", 7);
        fault("ship \u00e9 ; cart 2 ; change 3 ;", 5);
        fault("ship \0 ; cart 2 ; change 3 ;", 5);
        fault("ship 12345 ; cart 2 ; change 3 ;", 5);
        fault("ship 00001 ; cart 2 ; change 3 ;", 5);
        fault("ship 1 12345 ; cart 2 ; change 3 ;", 7);
        fault("ship 1 < 2 < 3 ; cart 2 ; change 3 ;", 11);
        fault("ship 1 = 2 < 3 ; cart 2 ; change 3 ;", 11);
        fault("ship 1 = not 2 ; cart 2 ; change 3 ;", 9);
        fault("ship 1 + not 2 ; cart 2 ; change 3 ;", 9);
        fault("ship - not 2 ; cart 2 ; change 3 ;", 7);
        fault("ship + 2 ; cart 2 ; change 3 ;", 5);
        fault("ship 1 or ; cart 2 ; change 3 ;", 10);
        fault("ship 1 and or 2 ; cart 2 ; change 3 ;", 11);
        fault("ship ( ) ; cart 2 ; change 3 ;", 7);
        fault("ship ( 1 ; cart 2 ; change 3 ;", 9);
        fault("ship 1 ) ; cart 2 ; change 3 ;", 7);
        fault("ship cart ; cart 2 ; change 3 ;", 5);
        fault("ship 1 * * 2 ; cart 2 ; change 3 ;", 9);
        fault("ship ((((((1)))))) ; cart 2 ; change 3 ;", 10);
        fault("ship ------1 ; cart 2 ; change 3 ;", 10);
        fault("ship not not not not not not 1 ; cart 2 ; change 3 ;", 25);
        fault("ship not(not(-(1))) ; cart 2 ; change 3 ;", "ship not(not(-".length());
        fault("ship 1 ; cart 1 ; change (((((1+(2)))))) ;", "ship 1 ; cart 1 ; change (((((1+".length());
        fault("ship (((((-1))))) ; cart 2 ; change 3 ;", 10);
        fault("ship (((((not 1))))) ; cart 2 ; change 3 ;", 10);
        OneAlwaysUp x = new OneAlwaysUp();
        due("five open, a - between two", read(x, "ship (((((1-2))))) ; cart -----1-1 ; change not not not not not 1 ;"), 1);
        due("what is closed is not open", read(x, "ship ((((1))))+((((1))))*----1--1 ; cart not 1 and not 1 or not(not(not 1)) ; change -(-(-1))-(1) ;"), 2);
        due("a not ends with what it belongs to", read(x, "ship not not not not not 1 = 2 and not not not not not 1 ; cart 1 ; change 1 ;"), 3);
    }

    /** What a ship costs, of price 7, at bridge 2, from minute 5 on, never through, one cart beside it. */
    private static void worth(String e, int want) {
        OneAlwaysUp x = ruled("ship " + e + " ; cart 1 ; change 1 ;");
        x.come(0, 205, 7);
        x.come(1, 100, 1);
        due("what " + e + " is", x.told(0, 0, 5), want);
    }

    private static void worth() {
        by(8, "");
        worth("waited", 19);
        worth("price", 7);
        worth("minute", 24);
        worth("bridge", 2);
        worth("was + 50", 50);
        worth("many", 2);
        worth("0 - 1", 0);
        worth("100", 99);
        worth("99", 99);
        worth("9999", 99);
        worth("0007", 7);
        worth("10 - 3 - 2", 5);
        worth("2 + 3 * 4", 14);
        worth("(2 + 3) * 4", 20);
        worth("- 2 * 3 + 10", 4);
        worth("10 - -2", 12);
        worth("--7", 7);
        worth("5 < 6", 1);
        worth("6 < 6", 0);
        worth("6 = 6", 1);
        worth("5 = 6", 0);
        worth("(5 < 6) + 2", 3);
        worth("not 0 + 5", 0);
        worth("not 5 = 6", 1);
        worth("not not 7", 1);
        worth("7 and 8", 1);
        worth("7 and 0", 0);
        worth("0 or 8", 1);
        worth("0 or 0", 0);
        worth("1 or 1 and 0", 1);
        worth("(1 or 1) and 0", 0);
        worth("-1 < 0 and -1", 1);
        worth("9999 * 9999 * 9999 < 0", 1);
        worth("9999 * 9999 * 100 < 0", 0);
        worth("9999 * 9999 * 22 < 0", 1);
        worth("8192 * 8192 * 64 = 0", 1);
        worth("8192 * 8192 * 32 = -(8192 * 8192 * 32)", 1);
        OneAlwaysUp x = ruled("ship 1;cart was*50+waited+price+minute+bridge+many;change waited+price+minute+bridge*30+was*7+many;");
        x.come(1, 203, 4);
        due("told(1, 0, 5)", x.told(1, 0, 5), 4 + 3 + 2 + 1);
        lay(x, "000000000011111111111111");
        due("plan(0): a change in minute 10 from 0 to 1", x.plan(0), 10 + 10 + 30 + 1);
        lay(x, "111111111100000000000000");
        due("plan(0): a change in minute 10 from 1 to 0", x.plan(0), 10 + 10 + 7 + 1);
    }

    private static void force() {
        by(9, "");
        OneAlwaysUp x = new OneAlwaysUp();
        x.come(0, 120, 3);
        due("force(1)", x.force(1), -2);
        due("force(-1)", x.force(-1), -2);
        read(x, "ship 5 ; cart 6 ; change 7 ;");
        due("told(0, 0, 5)", x.told(0, 0, 5), 12);
        due("force(1)", x.force(1), 0);
        due("told(0, 0, 5)", x.told(0, 0, 5), 5);
        due("force(2)", x.force(2), -2);
        due("force(6)", x.force(6), -2);
        due("count(7)", x.count(7), 1);
        due("force(0)", x.force(0), 1);
        due("told(0, 0, 5)", x.told(0, 0, 5), 12);
    }

    private static void upAndAt() {
        by(10, "");
        OneAlwaysUp x = new OneAlwaysUp();
        due("up(0, 2)", x.up(0, 2), 0);
        due("up(0, 1)", x.up(0, 1), 2);
        due("up(23, 2)", x.up(23, 2), 0);
        due("up(-1, 0)", x.up(-1, 0), -2);
        due("up(24, 0)", x.up(24, 0), -2);
        due("up(0, -1)", x.up(0, -1), -2);
        due("up(0, 3)", x.up(0, 3), -2);
        by(11, "");
        due("at(0)", x.at(0), 1);
        due("at(1)", x.at(1), 0);
        due("at(23)", x.at(23), 2);
        due("at(-1)", x.at(-1), -2);
        due("at(24)", x.at(24), -2);
    }

    private static void plan() {
        by(12, "");
        OneAlwaysUp x = new OneAlwaysUp();
        x.come(0, 103, 2);
        x.come(0, 200, 1);
        x.come(1, 1, 4);
        lay(x, "000011110000000000000000");
        due("plan(0)", x.plan(0), 2 * 1 + 24 + 4 * 3 + 2);
        due("plan(1)", x.plan(1), 2);
        due("plan(2)", x.plan(2), 1);
        due("plan(3)", x.plan(3), 2);
        x.law(0, 0, 4);
        due("plan(2): held for four", x.plan(2), 1);
        x.up(3, 1);
        due("plan(2): three in minute 0", x.plan(2), 0);
        x.law(0, 0, 3);
        due("plan(2): three are enough now", x.plan(2), 1);
        x.up(23, 2);
        due("plan(2): held till minute 23", x.plan(2), 1);
        x.up(21, 2);
        due("plan(2): one alone", x.plan(2), 0);
        due("plan(1)", x.plan(1), 5);
        lay(x, "010000000000000000000000");
        due("plan(1): minutes 1 and 2", x.plan(1), 2);
        due("plan(2)", x.plan(2), 0);
        x.set(0, 0, 2, 0);
        due("plan(0)", x.plan(0), 24 + 2);
        due("plan(-1)", x.plan(-1), -2);
        due("plan(4)", x.plan(4), -2);
    }

    private static void least() {
        by(13, "");
        OneAlwaysUp x = new OneAlwaysUp();
        due("least(-1)", x.least(-1), -2);
        due("least(26)", x.least(26), -2);
        due("least(0)", x.least(0), 0);
        dueRow("least", leastRow(x), "000000000000000000000000");
        x.come(1, 0, 1);
        due("a cart in minute 0: least(0)", x.least(0), 0);
        dueRow("least", leastRow(x), "111111111111111111111111");
        x.set(1, 0, 2, 0);
        dueRow("a cart that may wait", leastRow(x), "000000000000000000000000");
        x.come(0, 110, 9);
        due("least(0)", x.least(0), 0);
        due("least(1)", x.least(1), 0);
        dueRow("a ship at 1", leastRow(x), "111111111111111111111111");
        x.come(0, 0, 9);
        due("least(0)", x.least(0), 1);
        due("least(1)", x.least(1), 1);
        dueRow("0 as long as can be, then 1", leastRow(x), "000000000011111111111111");
        x.come(0, 223, 9);
        due("least(0)", x.least(0), 2);
        dueRow("and 2 in the last minute", leastRow(x), "000000000011111111111112");
        x.law(0, 0, 4);
        dueRow("a last one may be short", leastRow(x), "000000000011111111111112");
        x.set(0, 2, 1, 12);
        due("least(0)", x.least(0), 2);
        dueRow("1 comes sooner, to be held for four", leastRow(x), "000000001111222222222222");
        x.set(0, 1, 1, 9);
        due("least(0)", x.least(0), 2 + 2 * 9);
        dueRow("the ship at 2 waits for two minutes", leastRow(x), "000000000011112222222222");
        x.law(0, 0, 2);
        dueRow("none waits", leastRow(x), "000000000011222222222222");
        due("least(0)", x.least(0), 2);
        due("the plan is not laid", x.plan(1), 0);
    }

    private static void leastByTexts() {
        by(13, "");
        OneAlwaysUp x = ruled("ship 0 ; cart 0 ; change 0 ;");
        x.come(0, 110, 9);
        x.come(1, 0, 9);
        dueRow("of like ones the first row", leastRow(x), "000000000000000000000000");
        x = ruled("ship minute = 24 ; cart 0 ; change 0 ;");
        x.come(0, 110, 9);
        dueRow("1 as late as can be", leastRow(x), "000000000000000000000001");
        x.law(0, 0, 3);
        dueRow("till minute 23", leastRow(x), "000000000000000000000001");
        x.come(0, 3, 9);
        x.come(0, 222, 9);
        dueRow("2 in 23, 1 for three ahead of it", leastRow(x), "000000000000000000001112");
        x.law(0, 0, 1);
        dueRow("1 and 2", leastRow(x), "000000000000000000000012");
        x = ruled("ship 9 * (minute = 24) ; cart 9 * (minute < 12) ; change 0 ;");
        x.come(1, 102, 0);
        due("a cart that should not go too soon", x.least(0), 0);
        dueRow("so 1 is up from 2 to 11", leastRow(x), "001111111111000000000000");
        x = ruled("ship 0 ; cart 0 ; change 5 * (bridge = 2) - was + 1 ;");
        x.come(0, 23, 0);
        due("no change is for less than 0", x.least(0), 0);
        x = ruled("ship 50 * (minute < 20) + 50 * (minute = 24) ; cart 0 ; change minute < 9 ;");
        x.come(0, 0, 0);
        x.come(0, 200, 0);
        due("ships that must come late", x.least(0), 0);
        dueRow("1 till 20, then 0 and 2", leastRow(x), "111111111111111111110002");
        x.law(0, 0, 4);
        due("0 for four leaves no minute for 2", x.least(0), 50);
        dueRow("of like ones the first row", leastRow(x), "000000000000000000000002");
    }

    private static void lay() {
        by(14, "");
        OneAlwaysUp x = new OneAlwaysUp();
        x.come(0, 0, 9);
        x.come(0, 110, 9);
        lay(x, "222222222222222222222222");
        due("lay()", x.lay(), 1);
        dueRow("the plan", planRow(x), "000000000011111111111111");
        due("plan(0)", x.plan(0), 1);
        x.set(0, 1, 1, 5);
        due("plan(0): the plan stays when a ship is another", x.plan(0), 1 + 45);
        due("lay()", x.lay(), 1);
        dueRow("the plan", planRow(x), "000001111111111111111111");
    }

    private static void fewest() {
        by(15, "");
        OneAlwaysUp x = new OneAlwaysUp();
        due("fewest()", x.fewest(), 0);
        x.come(0, 0, 0);
        due("a ship", x.fewest(), 0);
        x.come(1, 0, 0);
        due("a ship and a cart at one bridge", x.fewest(), 1);
        x.come(0, 122, 0);
        due("a ship at another", x.fewest(), 1);
        x.come(0, 222, 0);
        due("a ship at the third", x.fewest(), 2);
        x.law(0, 0, 2);
        due("a last one may be short", x.fewest(), 2);
        x.set(0, 1, 1, 23);
        due("2 in 22 would have to be so till 23", x.fewest(), 2);
        x.set(0, 2, 1, 23);
        due("two ships in one minute", x.fewest(), -1);
        x.law(0, 0, 1);
        due("nor with a shorter hold", x.fewest(), -1);
        x = new OneAlwaysUp();
        x.come(1, 23, 0);
        x.come(0, 23, 0);
        due("a ship and a cart in minute 23", x.fewest(), -1);
        x = ruled("ship 0 ; cart 0 ; change 99 ;");
        x.come(0, 0, 0);
        x.come(0, 100, 0);
        due("what it costs does not matter", x.fewest(), 1);
        x.law(0, 0, 4);
        x.set(0, 0, 1, 22);
        x.set(0, 1, 1, 21);
        due("1 has to begin ahead of 21", x.fewest(), 1);
        x.come(0, 223, 0);
        due("1, then 0, then 2 till the end: 0 can't be held", x.fewest(), -1);
    }

    private static void run() {
        by(16, "");
        OneAlwaysUp x = new OneAlwaysUp();
        due("run(0, 0)", x.run(0, 0), -2);
        x.master(0, 0);
        x.master(0, 9);
        x.master(1, 4);
        x.master(2, 0);
        dueRow("MASTER 0", runRow(x, 0), "120120120120120120120120");
        dueRow("MASTER 9", runRow(x, 1), "111111111122222222220000");
        dueRow("TIDE of none", runRow(x, 2), "111112222200000111112222");
        dueRow("MARKET of none", runRow(x, 3), "000000000000000000000000");
        x.come(0, 202, 3);
        x.come(0, 102, 4);
        x.come(0, 107, 0);
        x.come(1, 1, 5);
        x.come(1, 103, 5);
        dueRow("TIDE", runRow(x, 2), "111220000011111222220000");
        dueRow("MARKET", runRow(x, 3), "010000000000000000000000");
        due("run(2, -1)", x.run(2, -1), 3 + 5);
        due("run(0, -2)", x.run(0, -2), -2);
        due("run(0, 24)", x.run(0, 24), -2);
        due("run(-1, 0)", x.run(-1, 0), -2);
        due("run(4, 0)", x.run(4, 0), -2);
        x = new OneAlwaysUp();
        x.master(3, 1);
        x.master(4, 0);
        x.master(4, 1);
        x.master(5, 9);
        dueRow("CALL of none", runRow(x, 0), "112200112200112200112200");
        dueRow("LAZY of none", runRow(x, 3), "111111111111111111111111");
        x.come(0, 2, 3);
        x.come(0, 204, 2);
        x.come(0, 5, 9);
        x.come(1, 204, 4);
        x.come(1, 105, 1);
        dueRow("CALL", runRow(x, 0), "110020112200112200112200");
        dueRow("BEST", runRow(x, 1), "000000200000000000000000");
        dueRow("BEST that is odd", runRow(x, 2), "000000000000000000000000");
        due("the plan stays", x.plan(1), 0);
        x = new OneAlwaysUp();
        x.master(3, 9);
        x.master(1, 9);
        x.master(5, 9);
        x.master(2, 9);
        x.come(0, 101, 1);
        x.come(0, 201, 9);
        x.come(1, 2, 3);
        x.come(1, 102, 1);
        x.come(1, 202, 1);
        dueRow("CALL stays for those who wait", runRow(x, 0), "112222222200000000001111");
        dueRow("TIDE goes where most is", runRow(x, 1), "121111111122222222220000");
        dueRow("LAZY in minutes by three alone", runRow(x, 2), "111222222222222222222222");
        dueRow("MARKET goes where least is", runRow(x, 3), "001000000000000000000000");
        x = new OneAlwaysUp();
        x.master(1, 9);
        x.master(4, 8);
        x.master(4, 9);
        x.master(4, 4);
        x.come(0, 203, 5);
        x.come(0, 103, 5);
        x.come(1, 103, 1);
        x.come(1, 6, 2);
        dueRow("TIDE of like ones", runRow(x, 0), "111122222200000000001111");
        dueRow("BEST: 2, as a cart waits at 1", runRow(x, 1), "000210100000000000000000");
        dueRow("BEST that is odd", runRow(x, 2), "000000100000000000000000");
        dueRow("BEST by another even number", runRow(x, 3), "000210100000000000000000");
    }

    private static void follow() {
        by(17, "");
        OneAlwaysUp x = new OneAlwaysUp();
        due("follow(0)", x.follow(0), -2);
        x.master(0, 5);
        x.come(0, 200, 2);
        due("follow(0)", x.follow(0), 2 * 6 + 3);
        dueRow("the plan", planRow(x), "111111222222000000111111");
        due("plan(0)", x.plan(0), 15);
        due("follow(-1)", x.follow(-1), -2);
        due("follow(1)", x.follow(1), -2);
        x.law(2, 0, 9);
        dueRow("the plan stays when the number is another", planRow(x), "111111222222000000111111");
        due("follow(0)", x.follow(0), 2 * 10 + 2);
        dueRow("the plan", planRow(x), "111111111122222222220000");
    }

    private static void way() {
        by(18, "");
        OneAlwaysUp x = new OneAlwaysUp();
        due("way(0, 0)", x.way(0, 0), -2);
        x.come(1, 0, 0);
        x.come(1, 200, 0);
        x.come(1, 102, 0);
        due("way(0, 0)", x.way(0, 0), 3);
        due("way(0, 1)", x.way(0, 1), 1);
        due("way(1, 0)", x.way(1, 0), 0);
        due("way(1, 1)", x.way(1, 1), 2);
        lay(x, "000111100000000000000000");
        due("its own is down as soon: the least", x.way(0, 1), 0);
        due("way(0, 0)", x.way(0, 0), 3);
        lay(x, "000011110000000000000000");
        x.law(1, 0, 4);
        due("1 is up when it comes there", x.way(0, 0), 4);
        due("way(0, 1)", x.way(0, 1), 0);
        lay(x, "111111111110000000000000");
        x.set(1, 0, 0, 1);
        due("from 1 to 0, or to 2: the least", x.way(0, 1), 0);
        due("way(0, 0)", x.way(0, 0), 4);
        x.set(1, 0, 0, 0);
        x.law(1, 0, 2);
        lay(x, "001100000000000000000000");
        due("1 is up, its own is down", x.way(0, 1), 0);
        lay(x, "000000000000000000000000");
        x.set(1, 0, 0, 2);
        x.set(1, 0, 1, 3);
        lay(x, "222222222222222222222222");
        due("the next one but one is twice as far", x.way(0, 0), 5);
        due("way(0, 1)", x.way(0, 1), 1);
        lay(x, "222221122222222222222222");
        due("its own is down as soon as it could be at 1", x.way(0, 1), 2);
        x.set(1, 0, 0, 0);
        lay(x, "000001111000000000000000");
        x.set(1, 0, 1, 0);
        due("1 in 2, 2 in 4, its own in 5", x.way(0, 0), 2);
        lay(x, "000000000000000000000000");
        x.law(1, 0, 9);
        x.set(1, 0, 1, 14);
        due("in minute 23", x.way(0, 0), 23);
        x.set(1, 0, 1, 15);
        due("too late", x.way(0, 0), -1);
        due("too late", x.way(0, 1), -1);
        due("way(-1, 0)", x.way(-1, 0), -2);
        due("way(3, 0)", x.way(3, 0), -2);
        due("way(0, -1)", x.way(0, -1), -2);
        due("way(0, 2)", x.way(0, 2), -2);
    }

    private static void fourth() {
        by(19, "");
        OneAlwaysUp x = new OneAlwaysUp();
        x.come(1, 2, 3);
        x.come(1, 4, 1);
        x.come(1, 106, 5);
        x.come(0, 200, 1);
        lay(x, "000000001111000000000000");
        due("fourth(0)", x.fourth(0), 3 * 6 + 1 * 4);
        due("fourth(1): it did not wait", x.fourth(1), 0);
        x.set(1, 2, 1, 9);
        due("fourth(1)", x.fourth(1), 15);
        due("fourth(2)", x.fourth(2), 0);
        due("fourth(-1)", x.fourth(-1), -2);
        due("fourth(3)", x.fourth(3), -2);
        x = ruled("ship 0 ; cart 30 - waited - minute ; change 0 ;");
        x.come(1, 2, 3);
        due("less than nothing", x.fourth(0), -28);
    }

    private static void late() {
        by(20, "");
        OneAlwaysUp x = new OneAlwaysUp();
        x.come(0, 0, 0);
        x.come(0, 100, 0);
        x.come(0, 210, 0);
        x.come(1, 0, 0);
        x.come(1, 123, 0);
        x.come(1, 20, 0);
        lay(x, "000001000000000000000000");
        due("late(0)", x.late(0), 2 + 4 + 16 + 64);
        due("late(4)", x.late(4), 2 + 4 + 16);
        due("late(5)", x.late(5), 4);
        due("late(13)", x.late(13), 4);
        due("late(14)", x.late(14), 0);
        x.set(0, 2, 1, 0);
        due("late(23)", x.late(23), 4);
        due("late(24)", x.late(24), 0);
        x.up(0, 2);
        due("the first ship", x.late(0), 1 + 2 + 64);
        due("late(-1)", x.late(-1), -2);
        due("late(25)", x.late(25), -2);
    }

    private static void blame() {
        by(21, "");
        OneAlwaysUp x = new OneAlwaysUp();
        due("blame(0)", x.blame(0), -1);
        due("blame(2)", x.blame(2), -1);
        x.come(0, 105, 3);
        due("blame(0)", x.blame(0), 5);
        due("blame(1)", x.blame(1), 1);
        due("blame(2): two changes", x.blame(2), 2);
        x.set(0, 0, 1, 23);
        due("blame(0): 3 now, 1 then", x.blame(0), 23);
        due("blame(2)", x.blame(2), 1);
        x.set(0, 0, 2, 1);
        due("not less than now", x.blame(0), -1);
        x.set(0, 0, 1, 22);
        x.come(0, 222, 1);
        due("four, now and then", x.blame(2), -1);
        x.set(0, 0, 2, 3);
        x.set(0, 1, 2, 3);
        due("of like ones the first bridge", x.blame(0), 22);
        due("blame(1)", x.blame(1), 1);
        due("blame(2)", x.blame(2), 6 + 2);
        dueRow("the plan stays", planRow(x), "000000000000000000000000");
        due("blame(-1)", x.blame(-1), -2);
        due("blame(3)", x.blame(3), -2);
        x.law(0, 0, 4);
        x.set(0, 0, 1, 5);
        x.set(0, 0, 2, 9);
        due("whether it is lawful does not matter", x.blame(0), 5);
        x = new OneAlwaysUp();
        x.come(0, 0, 9);
        lay(x, "222222222222222222222222");
        due("minute 0", x.blame(0), 0);
        due("bridge 0", x.blame(1), 0);
        due("one change", x.blame(2), 1);
        x = ruled("ship minute = 24 ; cart minute = 24 ; change 0 ;");
        x.come(1, 7, 0);
        x.come(1, 8, 0);
        due("both carts: the first minute", x.blame(0), 8);
        due("the first bridge", x.blame(1), 1);
        due("blame(2)", x.blame(2), 0);
        x.come(0, 210, 0);
        due("both carts and a ship", x.blame(0), 10);
        due("blame(1)", x.blame(1), 2);
        due("blame(2)", x.blame(2), 0);
    }

    private static void judge() {
        by(22, "");
        OneAlwaysUp x = new OneAlwaysUp();
        due("judge(-1)", x.judge(-1), -2);
        due("judge(4)", x.judge(4), -2);
        due("judge(3)", x.judge(3), -11);
        x.sheet(3, 0, 25);
        due("more than 24", x.judge(3), -2);
        x.sheet(3, 0, 24);
        due("24", x.judge(3), -1);
        x.sheet(3, 0, 0);
        due("nothing told", x.judge(3), -1);
        tell(x, 0, 2, 0, 0, 1, 2, 2, 2, 0);
        due("each held for one", x.judge(0), -1);
        x.law(0, 0, 2);
        due("1 for one alone", x.judge(0), 3);
        x.law(0, 0, 3);
        due("0 for two alone", x.judge(0), 2);
        tell(x, 0, 2, 1, 1, 1, 0, 0, 0, 2);
        due("the last one may be short", x.judge(0), -1);
        tell(x, 0, 2, 1, 0, 0, 0);
        due("one alone in minute 0", x.judge(0), 1);
        tell(x, 0, 2, 3);
        due("no bridge in minute 0", x.judge(0), 0);
        tell(x, 0, 0, 1, 1, -1);
        due("no bridge", x.judge(0), 2);
        tell(x, 0, 0, 1, 1, 257, 256);
        due("bytes", x.judge(0), -1);
        tell(x, 0, 1, 1, 1, 257);
        due("shorts", x.judge(0), 2);
        tell(x, 0, 1, 1, 65537, 1, 65536);
        due("shorts", x.judge(0), -1);
        tell(x, 0, 2, 65536);
        due("ints", x.judge(0), 0);
    }

    private static void who() {
        by(23, "");
        OneAlwaysUp x = new OneAlwaysUp();
        due("who(-1)", x.who(-1), -2);
        due("who(4)", x.who(4), -2);
        due("who(0)", x.who(0), -11);
        x.sheet(0, 2, 25);
        due("more than 24", x.who(0), -2);
        x.sheet(0, 2, 24);
        due("no masters", x.who(0), 0);
        x.master(2, 0);
        x.master(0, 1);
        x.master(0, 0);
        x.master(4, 0);
        due("MARKET and BEST", x.who(0), 1 + 8);
        tell(x, 0, 0, 1);
        due("as far as it tells", x.who(0), 2 + 4);
        tell(x, 0, 0, 1, 1);
        due("who(0)", x.who(0), 2);
        tell(x, 0, 0);
        due("nothing told", x.who(0), 15);
        tell(x, 0, 1, 1, 2, 3);
        due("no bridge", x.who(0), 0);
        x.come(0, 203, 1);
        tell(x, 0, 0, 0, 0, 0, 2);
        due("BEST has seen the ship", x.who(0), 8);
    }

    private static void drawn() {
        by(24, "");
        OneAlwaysUp x = new OneAlwaysUp();
        // 12345 >>> 8 is 48: the bridge of minute 0 is 0 with seed 0
        int z = 0;
        int changes = 0;
        int was = -1;
        for (int m = 0; m < 24; m++) {
            z = z * 1103515245 + 12345;
            int b = (z >>> 8) % 3;
            changes += was != -1 && b != was ? 1 : 0;
            was = b;
        }
        due("drawn(0)", x.drawn(0), changes);
        due("drawn(1)", x.drawn(1), 16);
        due("the plan stays", x.plan(1), 0);
        x.come(0, 0, 9);
        due("0 is up in minute 0", x.drawn(0), changes);
        x.come(1, 0, 9);
        due("a cart waits there", x.drawn(0) > changes ? 1 : 0, 1);
    }

    private static void chance() {
        by(25, "");
        OneAlwaysUp x = new OneAlwaysUp();
        due("chance(0, 0, 0)", x.chance(0, 0, 0), OneAlwaysUp.NO);
        due("chance(0, 21, 0)", x.chance(0, 21, 0), OneAlwaysUp.NO);
        due("chance(0, -1, 0)", x.chance(0, -1, 0), OneAlwaysUp.NO);
        due("chance(0, 1, -1)", x.chance(0, 1, -1), OneAlwaysUp.NO);
        due("chance(0, 1, 2)", x.chance(0, 1, 2), OneAlwaysUp.NO);
        due("chance(7, 20, 0)", x.chance(7, 20, 0), 1);
        due("chance(7, 20, 1)", x.chance(7, 20, 1), 1);
        x.come(0, 23, 0);
        int seed = Integer.MAX_VALUE - 5;
        for (int n = 1; n <= 20; n++) {
            int hits = 0;
            for (int k = 0; k < n; k++) {
                int z = seed + k;
                for (int m = 0; m < 24; m++) {
                    z = z * 1103515245 + 12345;
                }
                hits += (z >>> 8) % 3 == 0 ? 1 : 0;
            }
            int d = n;
            while (hits % d != 0 || n % d != 0) {
                d--;
            }
            due("chance(" + seed + ", " + n + ", 0)", x.chance(seed, n, 0), hits / d);
            due("chance(" + seed + ", " + n + ", 1)", x.chance(seed, n, 1), n / d);
        }
        x.come(0, 123, 0);
        due("none: 0 above", x.chance(seed, 12, 0), 0);
        due("none: 1 below", x.chance(seed, 12, 1), 1);
    }

    private static void image() {
        by(26, "");
        OneAlwaysUp x = new OneAlwaysUp();
        due("image()", x.image(), 0);
        x.come(0, 0, 0);
        x.come(1, 0, 0);
        x.come(1, 0, 0);
        due("back()", x.back(), 0);
        x.come(0, 5, 5);
        x.come(1, 6, 6);
        due("a later image", x.image(), 2);
        x.come(1, 7, 7);
        due("back()", x.back(), 2);
        due("told(1, 0, 1)", x.told(1, 0, 1), 6);
    }

    private static void back() {
        by(27, "");
        OneAlwaysUp x = new OneAlwaysUp();
        due("back()", x.back(), -3);
        read(x, "ship 1 ; cart 2 ; change 3 ;");
        x.force(1);
        x.come(0, 105, 5);
        x.come(1, 206, 6);
        x.master(5, 3);
        x.law(0, 0, 2);
        x.law(1, 0, 5);
        x.up(4, 2);
        x.up(5, 2);
        due("image()", x.image(), 2);
        x.set(0, 0, 0, 2);
        x.set(0, 0, 1, 2);
        x.set(0, 0, 2, 2);
        x.set(1, 0, 0, 0);
        x.set(1, 0, 1, 0);
        x.set(1, 0, 2, 0);
        x.come(0, 0, 0);
        x.come(1, 0, 0);
        x.master(2, 2);
        x.law(2, 0, 9);
        x.law(0, 0, 4);
        x.law(1, 0, 9);
        x.up(4, 1);
        x.up(9, 1);
        x.force(0);
        read(x, FIRST);
        x.feed('a');
        x.sheet(1, 1, 7);
        due("least(0)", x.least(0), 0);
        due("back()", x.back(), 2);
        int[] counts = {1, 1, 1, 2, 5, 3, 1, 1};
        for (int what = 0; what < 8; what++) {
            due("count(" + what + ")", x.count(what), counts[what]);
        }
        dueRow("the plan", planRow(x), "000022000000000000000000");
        int[] ship = {1, 5, 5, -1, 19, 1};
        int[] cart = {2, 6, 6, 6, 0, 2};
        for (int what = 0; what < 6; what++) {
            due("told(0, 0, " + what + ")", x.told(0, 0, what), ship[what]);
            due("told(1, 0, " + what + ")", x.told(1, 0, what), cart[what]);
        }
        due("taken(0, 5)", x.taken(0, 5), 3);
        due("taken(1, 2)", x.taken(1, 2), -11);
        due("sheets stay", x.judge(1), -1);
        due("least(0)", x.least(0), 3);
        due("master(4, 4)", x.master(4, 4), 1);
        due("back() again", x.back(), 2);
        due("count(2)", x.count(2), 1);
        due("master(3, 1)", x.master(3, 1), 1);
        due("taken(1, 3)", x.taken(1, 3), 1);
    }

    private static void count() {
        by(28, "");
        OneAlwaysUp x = new OneAlwaysUp();
        x.come(0, 0, 0);
        x.come(0, 0, 0);
        x.come(1, 0, 0);
        x.master(0, 0);
        x.master(0, 0);
        x.master(0, 0);
        x.law(0, 0, 4);
        x.law(1, 0, 7);
        read(x, FIRST);
        read(x, FIRST);
        x.force(2);
        x.feed(1);
        x.feed(2);
        int[] counts = {2, 1, 3, 4, 7, 3, 2, 2};
        for (int what = 0; what < 8; what++) {
            due("count(" + what + ")", x.count(what), counts[what]);
        }
        due("count(-1)", x.count(-1), -2);
        due("count(8)", x.count(8), -2);
    }

    private static void sheet() {
        by(29, "");
        OneAlwaysUp x = new OneAlwaysUp();
        due("sheet(-1, 0, 1)", x.sheet(-1, 0, 1), -2);
        due("sheet(4, 0, 1)", x.sheet(4, 0, 1), -2);
        due("sheet(0, -2, 1)", x.sheet(0, -2, 1), -2);
        due("sheet(0, 3, 1)", x.sheet(0, 3, 1), -2);
        due("sheet(0, 0, 41)", x.sheet(0, 0, 41), -2);
        due("sheet(0, 3, -1)", x.sheet(0, 3, -1), -2);
        due("sheet(0, 0, -1)", x.sheet(0, 0, -1), -14);
        due("still missing", x.cell(0, 0, 0), -11);
        due("sheet(0, 0, 40)", x.sheet(0, 0, 40), 1);
        due("cell(0, 39, 1)", x.cell(0, 39, 1), 1);
        due("cell(0, 40, 1)", x.cell(0, 40, 1), -12);
        due("sheet(0, 2, 3)", x.sheet(0, 2, 3), 1);
        due("cell(0, 3, 1)", x.cell(0, 3, 1), -12);
        due("cell(0, 2, 5)", x.cell(0, 2, 5), 1);
        due("judge(0)", x.judge(0), 2);
        due("sheet(0, 2, 3): all 0 again", x.sheet(0, 2, 3), 1);
        due("judge(0)", x.judge(0), -1);
        due("a refusal changes nothing", x.sheet(0, 1, 41), -2);
        due("a refusal changes nothing", x.sheet(0, 1, -1), -14);
        due("cell(0, 2, 65536)", x.cell(0, 2, 65536), 1);
        due("judge(0): still ints", x.judge(0), 2);
        due("sheet(0, -1, 99)", x.sheet(0, -1, 99), 1);
        due("cell(0, 0, 0)", x.cell(0, 0, 0), -11);
        due("sheet(0, -1, -9)", x.sheet(0, -1, -9), 1);
        due("sheet(3, 1, 0)", x.sheet(3, 1, 0), 1);
        due("cell(3, 0, 0)", x.cell(3, 0, 0), -12);
    }

    private static void cell() {
        by(30, "");
        OneAlwaysUp x = new OneAlwaysUp();
        due("cell(-1, 0, 0)", x.cell(-1, 0, 0), -2);
        due("cell(4, 0, 0)", x.cell(4, 0, 0), -2);
        due("cell(0, -1, 0)", x.cell(0, -1, 0), -11);
        x.sheet(0, 0, 2);
        due("cell(0, -1, 0)", x.cell(0, -1, 0), -12);
        due("cell(0, 2, 0)", x.cell(0, 2, 0), -12);
        due("cell(0, 1, -254)", x.cell(0, 1, -254), 1);
        x.master(0, 0);
        due("cell(0, 0, 513)", x.cell(0, 0, 513), 1);
        due("who(0): 1 and 2 by their lowest bits", x.who(0), 1);
    }

    private static void copy() {
        by(31, "");
        OneAlwaysUp x = new OneAlwaysUp();
        due("copy(-1, 0, 0, 0, 0)", x.copy(-1, 0, 0, 0, 0), -2);
        due("copy(0, 0, 4, 0, 0)", x.copy(0, 0, 4, 0, 0), -2);
        due("copy(0, 0, 1, 0, 0)", x.copy(0, 0, 1, 0, 0), -11);
        tell(x, 0, 0, 0, 1, 2, 0, 1, 2);
        due("copy(0, 0, 1, 0, 0)", x.copy(0, 0, 1, 0, 0), -11);
        due("copy(1, 0, 0, 0, 0)", x.copy(1, 0, 0, 0, 0), -11);
        x.sheet(1, 1, 6);
        due("unlike sorts", x.copy(0, 0, 1, 0, 99), -13);
        x.sheet(1, 0, 4);
        int[][] outside = {{-1, 0, 1}, {0, -1, 1}, {0, 0, -1}, {0, 0, 5}, {6, 0, 1}, {7, 0, 0}, {0, 5, 0}, {5, 0, 2}, {0, 3, 2},
            {Integer.MAX_VALUE, 0, 1}, {0, Integer.MAX_VALUE, 1}, {1, 1, Integer.MAX_VALUE}, {0, 0, Integer.MIN_VALUE}, {Integer.MIN_VALUE, 0, 1}};
        for (int[] o : outside) {
            due("copy(0, " + o[0] + ", 1, " + o[1] + ", " + o[2] + ")", x.copy(0, o[0], 1, o[1], o[2]), -12);
        }
        due("none, at the ends", x.copy(0, 6, 1, 4, 0), 0);
        x.master(0, 0);
        due("copy(0, 1, 1, 0, 4)", x.copy(0, 1, 1, 0, 4), 4);
        due("1 2 0 1", x.who(1), 1);
        due("onto itself, as they were", x.copy(0, 0, 0, 1, 5), 5);
        x.copy(0, 2, 1, 0, 4);
        due("1 2 0 1", x.who(1), 1);
        tell(x, 0, 0, 0, 1, 2, 0, 1, 2);
        due("the other way", x.copy(0, 1, 0, 0, 5), 5);
        x.copy(0, 0, 1, 0, 4);
        due("1 2 0 1", x.who(1), 1);
    }

    private static void comes() {
        by(32, "");
        OneAlwaysUp x = new OneAlwaysUp();
        due("comes(-1, 0, 0, 0)", x.comes(-1, 0, 0, 0), -2);
        due("comes(4, 0, 0, 0)", x.comes(4, 0, 0, 0), -2);
        due("comes(0, -1, 0, 0)", x.comes(0, -1, 0, 0), -2);
        due("comes(0, 3, 0, 0)", x.comes(0, 3, 0, 0), -2);
        due("comes(0, 0, 0, -1)", x.comes(0, 0, 0, -1), -2);
        due("comes(0, 0, 0, 9)", x.comes(0, 0, 0, 9), -2);
        due("comes(0, 0, 0, 0)", x.comes(0, 0, 0, 0), -11);
        tell(x, 0, 2, 9, 0, 105, 3, 1, 206, 4, 0, 24, 0, 1, 7, 2, 1, 8);
        due("of another sort", x.comes(0, 1, 0, 8), -13);
        due("none", x.comes(0, 2, 0, 0), 0);
        due("comes(0, 2, -1, 1)", x.comes(0, 2, -1, 1), -12);
        due("comes(0, 2, 13, 1)", x.comes(0, 2, 13, 1), -12);
        due("comes(0, 2, 2147483647, 8)", x.comes(0, 2, Integer.MAX_VALUE, 8), -12);
        due("comes(0, 2, -2147483648, 8)", x.comes(0, 2, Integer.MIN_VALUE, 8), -12);
        due("count(0)", x.count(0), 0);
        due("one is left out", x.comes(0, 2, 1, 4), 3);
        due("count(0)", x.count(0), 1);
        due("count(1)", x.count(1), 2);
        due("told(0, 0, 0)", x.told(0, 0, 0), 1);
        due("told(0, 0, 1)", x.told(0, 0, 1), 5);
        due("told(0, 0, 2)", x.told(0, 0, 2), 3);
        due("told(1, 1, 1)", x.told(1, 1, 1), 7);
        due("the fifth is cut off: what stood ahead came", x.comes(0, 2, 1, 5), -12);
        due("count(0)", x.count(0), 2);
        due("count(1)", x.count(1), 4);
        due("full ones are left out", x.comes(0, 2, 1, 4), 1);
        tell(x, 1, 0, 0, 123, 9, 0, 223, 9);
        due("bytes are -128 .. 127", x.comes(1, 0, 0, 2), 1);
        due("told(0, 3, 1)", x.told(0, 3, 1), 23);
    }

    private static void taken() {
        by(33, "");
        int[] under = {1, 3, 5, 11, 21, 35};
        for (int kind = 0; kind < 6; kind++) {
            OneAlwaysUp x = new OneAlwaysUp();
            x.master(kind, 7);
            for (int k = 0; k < 6; k++) {
                due("KIND " + kind + " taken for " + k, x.taken(0, k), (under[kind] >> k & 1) != 0 ? 7 : -13);
            }
            due("taken(0, -1)", x.taken(0, -1), -2);
            due("taken(0, 6)", x.taken(0, 6), -2);
            due("taken(-1, 6)", x.taken(-1, 6), -2);
            due("taken(1, 0)", x.taken(1, 0), -11);
            due("taken(-1, 0)", x.taken(-1, 0), -11);
        }
    }
}
