/** Promises 16, 17 and 33, and what NEXT says of each KIND, sentence by sentence. */
public final class EdgesOfMasters extends Due {
    public static void main(String[] args) {
        runEnds();
        masterDivides();
        masterTurns();
        tide();
        tideOfNone();
        market();
        call();
        callAtFirst();
        best();
        bestOdd();
        lazy();
        waits();
        runCost();
        follow();
        taken();
        takenRefusals();
        end();
    }

    private static OneAlwaysUp under(int kind, int number) {
        OneAlwaysUp x = new OneAlwaysUp();
        x.master(kind, number);
        return x;
    }

    /** The row of a MASTER, who turns in each MINUTE that can be divided by his NUMBER and 1. */
    private static String turns(int number) {
        StringBuilder row = new StringBuilder();
        int u = 0;
        for (int m = 0; m < 24; m++) {
            if (m % (number + 1) == 0) {
                u = u == 2 ? 0 : u + 1;
            }
            row.append(u);
        }
        return row.toString();
    }

    private static void runEnds() {
        by(16, "the BRIDGE in a MINUTE (0 .. 23); minute NONE: its COST; BAD");
        OneAlwaysUp x = new OneAlwaysUp();
        for (int n = 0; n < 4; n++) {
            due("none such yet", x.run(n, 0), BAD);
            due("none such yet", x.run(n, NONE), BAD);
            x.master(0, 9);
            due("run(" + n + ", 0)", x.run(n, 0), 1);
            due("run(" + n + ", 23)", x.run(n, 23), 0);
            due("run(" + n + ", -1)", x.run(n, NONE), 2);
            due("run(" + n + ", -2)", x.run(n, -2), BAD);
            due("run(" + n + ", 24)", x.run(n, 24), BAD);
            due("run(" + n + ", MIN)", x.run(n, MIN), BAD);
            due("run(" + n + ", MAX)", x.run(n, MAX), BAD);
        }
        for (int master : beyond(0, 3)) {
            due("run(" + master + ", 0)", x.run(master, 0), BAD);
            due("run(" + master + ", -1)", x.run(master, NONE), BAD);
        }
        due("THE PLAN stays", x.plan(1), 0);
    }

    private static void masterDivides() {
        by(16, "MASTER: in MINUTES that can be divided by (NUMBER and 1): (u and 1) modulo 3, else u");
        for (int number = 0; number < 10; number++) {
            OneAlwaysUp x = under(0, number);
            dueRow("NUMBER " + number, runRow(x, 0), turns(number));
            x.come(0, 205, 9);
            x.come(1, 105, 9);
            dueRow("NUMBER " + number + ", whoever waits", runRow(x, 0), turns(number));
        }
    }

    private static void masterTurns() {
        by(16, "(u and 1) modulo 3; in MINUTE 0 u is 0");
        dueRow("NUMBER 0", runRow(under(0, 0), 0), "120120120120120120120120");
        dueRow("NUMBER 9", runRow(under(0, 9), 0), "111111111122222222220000");
        dueRow("NUMBER 7", runRow(under(0, 7), 0), "111111112222222200000000");
    }

    private static void tide() {
        by(16, "TIDE: the BRIDGE of most s (of like ones the first)");
        OneAlwaysUp x = under(1, 9);
        x.come(0, 202, 4);
        x.come(0, 102, 4);
        due("like ones: the first", x.run(0, 2), 1);
        due("then the other", x.run(0, 3), 2);
        x.set(0, 0, 2, 5);
        due("the one of most", x.run(0, 2), 2);
        due("then the other", x.run(0, 3), 1);
        x.come(0, 102, 1);
        due("together as much: the first", x.run(0, 2), 1);
        x.set(0, 2, 2, 2);
        x.set(0, 0, 2, 6);
        due("together as much again", x.run(0, 2), 1);
        x.set(0, 0, 2, 7);
        due("together less", x.run(0, 2), 2);
        x.come(0, 2, 7);
        due("0 is the first of like ones", x.run(0, 2), 0);
        by(16, "TIDE: CARTS do not matter");
        x = under(1, 9);
        x.come(1, 202, 9);
        dueRow("a cart alone", runRow(x, 0), turns(9));
    }

    private static void tideOfNone() {
        by(16, "TIDE: if any s is above 0, else as a MASTER");
        for (int number : new int[] {0, 4, 9}) {
            OneAlwaysUp x = under(1, number);
            dueRow("none", runRow(x, 0), turns(number));
            x.come(0, 203, 0);
            dueRow("one of no price", runRow(x, 0), turns(number));
        }
        OneAlwaysUp x = under(1, 9);
        x.come(0, 203, 1);
        dueRow("one of price 1: 2 in 3, and so till 10, when it turns", runRow(x, 0), "111222222200000000001111");
        x.set(0, 0, 1, 23);
        dueRow("in 23", runRow(x, 0), "111111111122222222220002");
        x.set(0, 0, 1, 0);
        dueRow("in 0", runRow(x, 0), "222222222200000000001111");
    }

    private static void market() {
        by(16, "MARKET: the BRIDGE of least c (of like ones the first)");
        OneAlwaysUp x = under(2, 9);
        dueRow("none", runRow(x, 0), "0".repeat(24));
        x.come(1, 3, 0);
        dueRow("one of no price at 0", runRow(x, 0), "0".repeat(24));
        x.set(1, 0, 2, 1);
        dueRow("one at 0: in 3 it crosses", runRow(x, 0), "000100000000000000000000");
        x.come(1, 103, 1);
        dueRow("one at 1, too", runRow(x, 0), "000200000000000000000000");
        x.come(1, 203, 1);
        dueRow("one at each: the first of like ones, then 1, as 0 has one", runRow(x, 0), "000010000000000000000000");
        x.set(1, 0, 2, 9);
        x.set(1, 1, 2, 2);
        dueRow("of least", runRow(x, 0), "000200000000000000000000");
        x.set(1, 2, 2, 2);
        dueRow("of like ones the first", runRow(x, 0), "000100000000000000000000");
        x.come(1, 103, 1);
        dueRow("they are together more", runRow(x, 0), "000200000000000000000000");
        by(16, "MARKET: SHIPS do not matter");
        x = under(2, 0);
        x.come(0, 203, 9);
        dueRow("a ship alone", runRow(x, 0), "0".repeat(24));
    }

    private static void call() {
        by(16, "CALL: as a TIDE, if s(u) is 0, else u");
        OneAlwaysUp x = under(3, 9);
        dueRow("none: as a TIDE, so as a MASTER", runRow(x, 0), turns(9));
        x.come(0, 103, 1);
        x.come(0, 203, 9);
        dueRow("1 is UP, and one waits there", runRow(x, 0), "111122222200000000001111");
        x.set(0, 0, 2, 0);
        dueRow("what waits there is 0", runRow(x, 0), "111222222200000000001111");
        x.set(0, 0, 2, 1);
        x.set(0, 0, 1, 10);
        dueRow("in 10 it turns to 2, as none waits at 2, but one at 1", runRow(x, 0), "111222222211111111112222");
    }

    private static void callAtFirst() {
        by(16, "CALL: in MINUTE 0 u is 0");
        OneAlwaysUp x = under(3, 9);
        x.come(0, 0, 1);
        x.come(0, 200, 9);
        dueRow("one waits at 0 in 0", runRow(x, 0), "022222222200000000001111");
        x.set(0, 0, 2, 0);
        dueRow("of no price", runRow(x, 0), "222222222200000000001111");
        x.set(0, 0, 2, 1);
        x.set(0, 0, 1, 1);
        dueRow("one minute later", runRow(x, 0), "200000000011111111112222");
    }

    private static void best() {
        by(16, "BEST: the BRIDGE of most s less c (of like ones the first)");
        OneAlwaysUp x = under(4, 0);
        dueRow("none", runRow(x, 0), "0".repeat(24));
        x.come(0, 205, 3);
        dueRow("a ship at 2", runRow(x, 0), "000002000000000000000000");
        x.come(1, 205, 2);
        dueRow("and a cart there of less: in 5 the ship, then the cart", runRow(x, 0), "000002000000000000000000");
        x.set(1, 0, 2, 3);
        dueRow("of as much: 0, where it is 0, is the first; then the ship alone", runRow(x, 0), "000000200000000000000000");
        x.set(1, 0, 0, 0);
        dueRow("a cart at 0: 0 less 3", runRow(x, 0), "000002000000000000000000");
        by(16, "BEST: s less c below 0");
        x = under(4, 8);
        x.come(1, 5, 5);
        x.come(1, 105, 4);
        x.come(1, 205, 4);
        dueRow("least below 0, of like ones the first", runRow(x, 0), "000001000000000000000000");
        x.set(1, 2, 2, 3);
        dueRow("least below 0", runRow(x, 0), "000002000000000000000000");
        x.set(1, 0, 2, 3);
        dueRow("of like ones 0 in 5, then 1, as one waits at 0", runRow(x, 0), "000000100000000000000000");
    }

    private static void bestOdd() {
        by(16, "BEST: but as a MARKET, if NUMBER is odd");
        for (int number = 0; number < 10; number++) {
            OneAlwaysUp x = under(4, number);
            x.master(2, number);
            x.come(0, 205, 9);
            x.come(1, 7, 9);
            String even = "000002010000000000000000";
            String odd = "000000010000000000000000";
            dueRow("NUMBER " + number, runRow(x, 0), number % 2 == 0 ? even : odd);
            dueRow("a MARKET", runRow(x, 1), odd);
        }
    }

    private static void lazy() {
        by(16, "LAZY: as a TIDE, if m can be divided by 3, else u");
        dueRow("none, NUMBER 0", runRow(under(5, 0), 0), "111222000111222000111222");
        dueRow("none, NUMBER 1: in 0, 6, 12, 18", runRow(under(5, 1), 0), "111111222222000000111111");
        dueRow("none, NUMBER 9: in 0 alone, as 10 and 20 can't be divided by 3", runRow(under(5, 9), 0), "1".repeat(24));
        for (int from = 0; from < 24; from++) {
            OneAlwaysUp x = under(5, 9);
            x.come(0, 200 + from, 1);
            int seen = (from + 2) / 3 * 3;
            String want = seen < 24 ? "1".repeat(seen) + "2".repeat(24 - seen) : "1".repeat(24);
            dueRow("one at 2 from " + from, runRow(x, 0), want);
        }
    }

    private static void waits() {
        by(16, "one waits at its BRIDGE in m, if FROM is no later, and it wasn't THROUGH by MINUTES ahead");
        OneAlwaysUp x = under(1, 9);
        x.come(0, 100, 1);
        x.come(0, 101, 1);
        x.come(0, 201, 2);
        dueRow("1 in 0; 2 in 1; 1 in 2 for the second", runRow(x, 0), "121111111122222222220000");
        x.set(0, 0, 2, 9);
        dueRow("one that is through is not counted", runRow(x, 0), "121111111122222222220000");
        x.set(0, 0, 1, 1);
        dueRow("one that waits is", runRow(x, 0), "112222222200000000001111");
        by(16, "a CART waits for its BRIDGE not to be UP");
        x = under(2, 0);
        x.come(1, 0, 5);
        x.come(1, 4, 5);
        dueRow("each waits in its first minute, and has crossed then", runRow(x, 0), "100010000000000000000000");
        x.come(1, 104, 4);
        x.come(1, 204, 6);
        dueRow("that at 1 waits when 1 is UP, and is through then", runRow(x, 0), "100010000000000000000000");
    }

    private static void runCost() {
        by(16, "minute NONE: its COST");
        OneAlwaysUp x = under(0, 0);
        due("23 changes", x.run(0, NONE), 23);
        x.come(0, 22, 9);
        due("2 in 22, 0 in 23: one waits a minute", x.run(0, NONE), 23 + 9);
        due("run(0, 22)", x.run(0, 22), 2);
        x.set(0, 0, 1, 23);
        due("in its minute", x.run(0, NONE), 23);
        x.set(0, 0, 0, 1);
        due("in none", x.run(0, NONE), 32);
        due("THE PLAN's COST is another", x.plan(0), 9);
    }

    private static void follow() {
        by(17, "THE PLAN truly becomes RUN of a MASTER: COST; BAD");
        OneAlwaysUp x = new OneAlwaysUp();
        for (int n = 0; n < 4; n++) {
            due("none such yet", x.follow(n), BAD);
            x.master(0, n);
            due("follow(" + n + ")", x.follow(n), new int[] {23, 11, 7, 5}[n]);
            dueRow("THE PLAN", planRow(x), turns(n));
            due("plan(0)", x.plan(0), new int[] {23, 11, 7, 5}[n]);
        }
        for (int master : beyond(0, 3)) {
            due("follow(" + master + ")", x.follow(master), BAD);
        }
        dueRow("THE PLAN", planRow(x), turns(3));
        due("follow(0), the first", x.follow(0), 23);
        by(17, "the RUN does not look at THE PLAN, nor at HOLD");
        x.law(0, 0, 4);
        due("follow(0) again", x.follow(0), 23);
        dueRow("THE PLAN", planRow(x), turns(0));
        due("plan(2)", x.plan(2), 0);
    }

    private static void taken() {
        by(33, "a MASTER taken for one of KIND k, or one under that one (also by others between): the NUMBER");
        boolean[][] is = {
            {true, false, false, false, false, false},
            {true, true, false, false, false, false},
            {true, false, true, false, false, false},
            {true, true, false, true, false, false},
            {true, false, true, false, true, false},
            {true, true, false, false, false, true}};
        for (int kind = 0; kind < 6; kind++) {
            for (int number : new int[] {0, 9}) {
                OneAlwaysUp x = under(kind, number);
                for (int k = 0; k < 6; k++) {
                    due("KIND " + kind + " taken for " + k, x.taken(0, k), is[kind][k] ? number : UNLIKE);
                }
            }
        }
    }

    private static void takenRefusals() {
        by(33, "BAD: k (0 .. 5); -11: no such MASTER; -13");
        OneAlwaysUp x = new OneAlwaysUp();
        due("none", x.taken(0, 0), NOTHING);
        for (int n = 0; n < 4; n++) {
            due("none such yet", x.taken(n, 5), NOTHING);
            x.master(n, n);
            due("taken(" + n + ", 0)", x.taken(n, 0), n);
            due("taken(" + n + ", 5)", x.taken(n, 5), UNLIKE);
        }
        for (int master : beyond(0, 3)) {
            due("taken(" + master + ", 0)", x.taken(master, 0), NOTHING);
            due("taken(" + master + ", 5)", x.taken(master, 5), NOTHING);
        }
        for (int k : beyond(0, 5)) {
            due("taken(0, " + k + ")", x.taken(0, k), BAD);
            due("BAD ahead of -11: taken(4, " + k + ")", x.taken(4, k), BAD);
        }
        by(33, "the NUMBER as it is");
        x.law(2, 3, 8);
        due("taken(3, 1)", x.taken(3, 1), 8);
    }
}
