/** Promises 1 to 6, sentence by sentence: the last numbers that are allowed and the first that are not, the empty and the full. */
public final class EdgesOfComers extends Due {
    public static void main(String[] args) {
        newObject();
        comeWhat();
        comeSortAndPrice();
        comeNumbers();
        setEnds();
        setOne();
        lawHold();
        lawWalk();
        lawNumber();
        toldThrough();
        toldWaited();
        toldCost();
        toldEnds();
        masterKinds();
        masterNumbers();
        end();
    }

    private static void newObject() {
        OneAlwaysUp x = new OneAlwaysUp();
        by(1, "no SHIPS, no CARTS");
        due("count(0)", x.count(0), 0);
        due("count(1)", x.count(1), 0);
        due("told(0, 0, 0)", x.told(0, 0, 0), BAD);
        due("told(1, 0, 0)", x.told(1, 0, 0), BAD);
        due("image()", new OneAlwaysUp().image(), 0);
        by(1, "BRIDGE 0 is UP all day");
        dueRow("the plan", planRow(x), "000000000000000000000000");
        by(1, "HOLD: 1 at first; WALK: 3 at first");
        due("law(0, 0, 2)", x.law(0, 0, 2), 1);
        due("law(1, 0, 2)", x.law(1, 0, 2), 3);
        by(1, "no MASTERS");
        due("taken(0, 0)", x.taken(0, 0), NOTHING);
        by(1, "TEXT 0, at first THE RULE");
        due("force(0)", x.force(0), 0);
        by(1, "THE TAPE is empty");
        due("feed(32)", x.feed(32), 1);
        by(1, "SHEETS are missing at first");
        for (int s = 0; s < 4; s++) {
            due("cell(" + s + ", 0, 0)", x.cell(s, 0, 0), NOTHING);
        }
        by(1, "objects do not share anything");
        due("another one's law(0, 0, 1)", new OneAlwaysUp().law(0, 0, 1), 1);
        due("another one's cell(0, 0, 0)", new OneAlwaysUp().cell(0, 0, 0), NOTHING);
    }

    private static void comeWhat() {
        by(2, "what: 100 times BRIDGE (0 .. 2), and FROM (0 .. 23)");
        for (int what = -350; what <= 450; what++) {
            boolean allowed = what >= 0 && what < 300 && what % 100 < 24;
            for (int sort = 0; sort < 2; sort++) {
                OneAlwaysUp x = new OneAlwaysUp();
                due("come(" + sort + ", " + what + ", 5)", x.come(sort, what, 5), allowed ? 0 : BAD);
                due("count(" + sort + ")", x.count(sort), allowed ? 1 : 0);
                due("told(.., 0) behind " + what, x.told(sort, 0, 0), allowed ? what / 100 : BAD);
                due("told(.., 1) behind " + what, x.told(sort, 0, 1), allowed ? what % 100 : BAD);
            }
        }
        for (int what : new int[] {MIN, MIN + 48, MAX, MAX - 47, 65536, 1 << 16 | 100}) {
            due("come(0, " + what + ", 5)", new OneAlwaysUp().come(0, what, 5), BAD);
        }
    }

    private static void comeSortAndPrice() {
        by(2, "a SHIP (sort 0), a CART (1)");
        for (int sort : beyond(0, 1)) {
            due("come(" + sort + ", 0, 0)", new OneAlwaysUp().come(sort, 0, 0), BAD);
        }
        by(2, "a PRICE (0 .. 9)");
        for (int price : new int[] {0, 9}) {
            OneAlwaysUp x = new OneAlwaysUp();
            due("come(0, 0, " + price + ")", x.come(0, 0, price), 0);
            due("come(1, 0, " + price + ")", x.come(1, 0, price), 0);
            due("told(0, 0, 2)", x.told(0, 0, 2), price);
            due("told(1, 0, 2)", x.told(1, 0, 2), price);
        }
        for (int price : beyond(0, 9)) {
            due("come(0, 0, " + price + ")", new OneAlwaysUp().come(0, 0, price), BAD);
            due("come(1, 0, " + price + ")", new OneAlwaysUp().come(1, 0, price), BAD);
        }
    }

    private static void comeNumbers() {
        by(2, "4 at most each, numbered from 0 on, as they come; FULL");
        for (int sort = 0; sort < 2; sort++) {
            OneAlwaysUp x = new OneAlwaysUp();
            for (int n = 0; n < 4; n++) {
                due("one of sort " + sort, x.come(sort, n, n), n);
            }
            due("the fifth of sort " + sort, x.come(sort, 9, 9), FULL);
            due("the sixth of sort " + sort, x.come(sort, 9, 9), FULL);
            for (int n = 0; n < 4; n++) {
                due("told(" + sort + ", " + n + ", 1)", x.told(sort, n, 1), n);
                due("the others have room of their own", x.come(1 - sort, n, n), n);
            }
            due("the fifth of the others", x.come(1 - sort, 9, 9), FULL);
            by(2, "BAD ahead of FULL");
            due("come(" + sort + ", 24, 0)", x.come(sort, 24, 0), BAD);
            due("come(" + sort + ", 300, 0)", x.come(sort, 300, 0), BAD);
            due("come(" + sort + ", 0, 10)", x.come(sort, 0, 10), BAD);
        }
    }

    private static void setEnds() {
        int[] last = {2, 23, 9};
        for (int sort = 0; sort < 2; sort++) {
            for (int what = 0; what < 3; what++) {
                by(3, "BRIDGE (what 0), FROM (1), PRICE (2) becomes v: what it was");
                OneAlwaysUp x = new OneAlwaysUp();
                x.come(sort, 101, 1);
                String set = "set(" + sort + ", 0, " + what + ", ";
                due(set + last[what] + ")", x.set(sort, 0, what, last[what]), 1);
                due(set + "0)", x.set(sort, 0, what, 0), last[what]);
                by(3, "BAD: a number is none such");
                for (int v : beyond(0, last[what])) {
                    due(set + v + ")", x.set(sort, 0, what, v), BAD);
                }
                for (int other = 0; other < 3; other++) {
                    due("told(.., " + other + ")", x.told(sort, 0, other), other == what ? 0 : 1);
                }
            }
        }
    }

    private static void setOne() {
        by(3, "of a SHIP (sort 0), a CART (1)");
        for (int sort = 0; sort < 2; sort++) {
            OneAlwaysUp x = new OneAlwaysUp();
            due("none is there", x.set(sort, 0, 0, 0), BAD);
            x.come(1 - sort, 0, 0);
            due("one of the others is there", x.set(sort, 0, 0, 0), BAD);
            for (int n = 0; n < 4; n++) {
                x.come(sort, n, 0);
                due("the last one", x.set(sort, n, 2, n + 1), 0);
                due("the one behind", x.set(sort, n + 1, 2, 0), BAD);
            }
            for (int one : beyond(0, 3)) {
                due("set(" + sort + ", " + one + ", 0, 0)", x.set(sort, one, 0, 0), BAD);
            }
            for (int n = 0; n < 4; n++) {
                due("told(" + sort + ", " + n + ", 2)", x.told(sort, n, 2), n + 1);
            }
            due("the other's price", x.told(1 - sort, 0, 2), 0);
            for (int what : beyond(0, 2)) {
                due("set(" + sort + ", 0, " + what + ", 0)", x.set(sort, 0, what, 0), BAD);
            }
            for (int none : beyond(0, 1)) {
                due("set(" + none + ", 0, 0, 0)", x.set(none, 0, 0, 0), BAD);
            }
        }
    }

    private static void lawHold() {
        by(4, "HOLD (1 .. 4) becomes v: what it was");
        OneAlwaysUp x = new OneAlwaysUp();
        int was = 1;
        for (int v : new int[] {4, 1, 2, 3}) {
            due("law(0, 0, " + v + ")", x.law(0, 0, v), was);
            due("count(3)", x.count(3), v);
            was = v;
        }
        for (int v : beyond(1, 4)) {
            due("law(0, 0, " + v + ")", x.law(0, 0, v), BAD);
        }
        due("count(3)", x.count(3), 3);
        due("count(4)", x.count(4), 3);
        by(4, "HOLD (what 0), WALK (1), NUMBER of a MASTER (2)");
        for (int what : beyond(0, 2)) {
            due("law(" + what + ", 0, 1)", x.law(what, 0, 1), BAD);
        }
    }

    private static void lawWalk() {
        by(4, "WALK (1 .. 9) becomes v: what it was");
        OneAlwaysUp x = new OneAlwaysUp();
        int was = 3;
        for (int v : new int[] {9, 1, 5}) {
            due("law(1, 0, " + v + ")", x.law(1, 0, v), was);
            due("count(4)", x.count(4), v);
            was = v;
        }
        for (int v : beyond(1, 9)) {
            due("law(1, 0, " + v + ")", x.law(1, 0, v), BAD);
        }
        due("count(4)", x.count(4), 5);
        due("count(3)", x.count(3), 1);
        by(4, "of: which MASTER; it is nothing to HOLD and WALK");
        for (int of : beyond(0, 3)) {
            due("law(0, " + of + ", 1)", x.law(0, of, 1), 1);
            due("law(1, " + of + ", 5)", x.law(1, of, 5), 5);
        }
    }

    private static void lawNumber() {
        by(4, "NUMBER of a MASTER (0 .. 9) becomes v: what it was");
        OneAlwaysUp x = new OneAlwaysUp();
        for (int n = 0; n < 4; n++) {
            due("none is there", x.law(2, n, 0), BAD);
            x.master(0, 5);
            due("law(2, " + n + ", 9)", x.law(2, n, 9), 5);
            due("law(2, " + n + ", 0)", x.law(2, n, 0), 9);
            due("law(2, " + n + ", ..)", x.law(2, n, n + 1), 0);
        }
        for (int v : beyond(0, 9)) {
            due("law(2, 0, " + v + ")", x.law(2, 0, v), BAD);
        }
        for (int of : beyond(0, 3)) {
            due("law(2, " + of + ", 1)", x.law(2, of, 1), BAD);
        }
        for (int n = 0; n < 4; n++) {
            due("taken(" + n + ", 0)", x.taken(n, 0), n + 1);
        }
    }

    private static void toldThrough() {
        by(5, "a SHIP is THROUGH in the first MINUTE, FROM or later, in which its BRIDGE is UP");
        OneAlwaysUp x = new OneAlwaysUp();
        x.come(0, 105, 1);
        x.come(1, 205, 1);
        lay(x, "222212222222222222222222");
        due("not ahead of FROM", x.told(0, 0, 3), NONE);
        x.up(5, 1);
        due("in FROM", x.told(0, 0, 3), 5);
        x.up(5, 2);
        x.up(6, 1);
        x.up(9, 1);
        due("the first one", x.told(0, 0, 3), 6);
        by(5, "a CART in the first one, FROM or later, in which its BRIDGE isn't UP");
        due("the first one", x.told(1, 0, 3), 6);
        x.up(5, 0);
        due("in FROM", x.told(1, 0, 3), 5);
        by(5, "the MINUTE in which it is THROUGH (NONE)");
        lay(x, "000002222222222222222222");
        due("a ship in none", x.told(0, 0, 3), NONE);
        due("a cart in none", x.told(1, 0, 3), NONE);
        x.up(23, 1);
        due("a ship in the last one", x.told(0, 0, 3), 23);
        due("a cart in the last one", x.told(1, 0, 3), 23);
        x.set(0, 0, 1, 0);
        x.set(1, 0, 1, 0);
        x.up(0, 1);
        due("a ship in the first one", x.told(0, 0, 3), 0);
        due("a cart in the first one", x.told(1, 0, 3), 0);
    }

    private static void toldWaited() {
        by(5, "it WAITED that MINUTE less FROM; 24 less FROM, if there is none");
        for (int from = 0; from < 24; from++) {
            OneAlwaysUp x = new OneAlwaysUp();
            x.come(0, 100 + from, 0);
            x.come(1, from, 0);
            due("a ship of " + from + " in none", x.told(0, 0, 4), 24 - from);
            due("a cart of " + from + " in none", x.told(1, 0, 4), 24 - from);
            x.up(23, 1);
            due("a ship of " + from + " in 23", x.told(0, 0, 4), 23 - from);
            due("a cart of " + from + " in 23", x.told(1, 0, 4), 23 - from);
            x.up(from, 1);
            due("a ship of " + from + " in FROM", x.told(0, 0, 4), 0);
            due("a cart of " + from + " in FROM", x.told(1, 0, 4), 0);
        }
    }

    private static void toldCost() {
        by(5, "what that costs (ship, cart): 0 .. 99, else the bound");
        OneAlwaysUp x = new OneAlwaysUp();
        x.come(0, 113, 9);
        x.come(1, 13, 9);
        due("a ship: 11 times 9", x.told(0, 0, 5), 99);
        due("a cart: 11 times 9", x.told(1, 0, 5), 99);
        x.set(0, 0, 1, 14);
        x.set(1, 0, 1, 14);
        due("a ship: 10 times 9", x.told(0, 0, 5), 90);
        due("a cart: 10 times 9", x.told(1, 0, 5), 90);
        x.set(0, 0, 1, 12);
        x.set(1, 0, 1, 12);
        due("a ship: 12 times 9", x.told(0, 0, 5), 99);
        due("a cart: 12 times 9", x.told(1, 0, 5), 99);
        x.set(0, 0, 2, 0);
        x.set(1, 0, 2, 0);
        due("a ship of no price", x.told(0, 0, 5), 0);
        due("a cart of no price", x.told(1, 0, 5), 0);
    }

    private static void toldEnds() {
        by(5, "0 BRIDGE .. 5 what that costs; BAD");
        OneAlwaysUp x = new OneAlwaysUp();
        x.come(0, 202, 7);
        x.come(1, 103, 8);
        int[][] want = {{2, 2, 7, NONE, 22, 99}, {1, 3, 8, 3, 0, 0}};
        for (int sort = 0; sort < 2; sort++) {
            for (int what = 0; what < 6; what++) {
                due("told(" + sort + ", 0, " + what + ")", x.told(sort, 0, what), want[sort][what]);
                for (int one : beyond(0, 0)) {
                    due("told(" + sort + ", " + one + ", " + what + ")", x.told(sort, one, what), BAD);
                }
            }
            for (int what : beyond(0, 5)) {
                due("told(" + sort + ", 0, " + what + ")", x.told(sort, 0, what), BAD);
            }
        }
        for (int sort : beyond(0, 1)) {
            due("told(" + sort + ", 0, 0)", x.told(sort, 0, 0), BAD);
        }
    }

    private static void masterKinds() {
        by(6, "KINDS 0 .. 5, a NUMBER (0 .. 9)");
        for (int kind = 0; kind < 6; kind++) {
            OneAlwaysUp x = new OneAlwaysUp();
            due("master(" + kind + ", 0)", x.master(kind, 0), 0);
            due("master(" + kind + ", 9)", x.master(kind, 9), 1);
            due("taken(0, " + kind + ")", x.taken(0, kind), 0);
            due("taken(1, " + kind + ")", x.taken(1, kind), 9);
            for (int number : beyond(0, 9)) {
                due("master(" + kind + ", " + number + ")", x.master(kind, number), BAD);
            }
            due("count(2)", x.count(2), 2);
        }
        for (int kind : beyond(0, 5)) {
            due("master(" + kind + ", 0)", new OneAlwaysUp().master(kind, 0), BAD);
        }
    }

    private static void masterNumbers() {
        by(6, "MASTERS (4 at most, numbered from 0); FULL");
        OneAlwaysUp x = new OneAlwaysUp();
        for (int n = 0; n < 4; n++) {
            due("master(" + n + ", 1)", x.master(n, 1), n);
        }
        due("the fifth", x.master(0, 0), FULL);
        due("the sixth", x.master(0, 0), FULL);
        due("count(2)", x.count(2), 4);
        by(6, "BAD ahead of FULL");
        due("master(6, 0)", x.master(6, 0), BAD);
        due("master(0, 10)", x.master(0, 10), BAD);
        due("master(-1, 0)", x.master(-1, 0), BAD);
        due("master(0, -1)", x.master(0, -1), BAD);
    }
}
