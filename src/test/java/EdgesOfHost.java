/** Promises 29 to 32, sentence by sentence: sheets, their cells, what is copied, who comes by them. */
public final class EdgesOfHost extends Due {
    public static void main(String[] args) {
        sheetEnds();
        sheetSizes();
        sheetAnew();
        sheetMissing();
        cellRefusals();
        cellEnds();
        cellBits();
        copyRefusals();
        copyOutside();
        copyNone();
        copyAsTheyWere();
        copyItself();
        comesRefusals();
        comesOrder();
        comesNone();
        comesEnds();
        comesOutside();
        comesCutOff();
        comesLeftOut();
        comesFull();
        comesBySort();
        end();
    }

    /** The first numbers of a sheet, each read as the price of a ship, so they must be 0 .. 9. */
    private static void dueCells(OneAlwaysUp x, int sheet, int sort, int... want) {
        for (int i = 0; i < want.length; i++) {
            x.sheet(3, sort, 3);
            due("copied, item " + i, x.copy(sheet, i, 3, 2, 1), 1);
            x.image();
            due("a ship of the price in item " + i, x.comes(3, sort, 0, 1), 1);
            due("item " + i, x.told(0, 0, 2), want[i]);
            x.back();
        }
    }

    private static void sheetEnds() {
        by(29, "BAD: no such SHEET (0 .. 3), sort (0 .. 2, -1)");
        OneAlwaysUp x = new OneAlwaysUp();
        for (int s : beyond(0, 3)) {
            for (int sort = -1; sort < 3; sort++) {
                due("sheet(" + s + ", " + sort + ", 1)", x.sheet(s, sort, 1), BAD);
            }
        }
        for (int s = 0; s < 4; s++) {
            for (int sort : beyond(-1, 2)) {
                due("sheet(" + s + ", " + sort + ", 1)", x.sheet(s, sort, 1), BAD);
            }
            due("still missing", x.cell(s, 0, 0), NOTHING);
            for (int sort = 0; sort < 3; sort++) {
                due("sheet(" + s + ", " + sort + ", 1)", x.sheet(s, sort, 1), 1);
                due("cell(" + s + ", 0, 0)", x.cell(s, 0, 0), 1);
                for (int other = 0; other < 3; other++) {
                    due("its sort", x.comes(s, other, 0, 0), other == sort ? 0 : UNLIKE);
                }
            }
        }
    }

    private static void sheetSizes() {
        by(29, "n of a sort; BAD: n above 40; -14: a size below 0");
        OneAlwaysUp x = new OneAlwaysUp();
        for (int sort = 0; sort < 3; sort++) {
            for (int n : new int[] {0, 1, 39, 40}) {
                due("sheet(0, " + sort + ", " + n + ")", x.sheet(0, sort, n), 1);
                due("behind the last", x.cell(0, n, 0), OUTSIDE);
                due("the last", x.cell(0, n - 1, 0), n == 0 ? OUTSIDE : 1);
            }
            for (int n : new int[] {41, 42, MAX}) {
                due("sheet(0, " + sort + ", " + n + ")", x.sheet(0, sort, n), BAD);
            }
            for (int n : new int[] {-1, -2, MIN}) {
                due("sheet(0, " + sort + ", " + n + ")", x.sheet(0, sort, n), NEGATIVE);
            }
            due("it is as it was", x.cell(0, 39, 0), 1);
        }
        by(29, "BAD for the SHEET, for the sort ahead of -14");
        due("sheet(4, 0, -1)", x.sheet(4, 0, -1), BAD);
        due("sheet(0, 3, -1)", x.sheet(0, 3, -1), BAD);
        due("sheet(0, -2, -1)", x.sheet(0, -2, -1), BAD);
    }

    private static void sheetAnew() {
        by(29, "all 0");
        OneAlwaysUp x = new OneAlwaysUp();
        x.master(2, 0);
        for (int sort = 0; sort < 3; sort++) {
            x.sheet(0, sort, 24);
            due("all 0", x.who(0), 1);
            x.cell(0, 0, 1);
            x.cell(0, 23, 1);
            due("not all 0", x.who(0), 0);
            x.sheet(0, sort, 24);
            due("all 0 again", x.who(0), 1);
            x.cell(0, 23, 1);
            x.sheet(0, sort, 5);
            x.sheet(0, sort, 24);
            due("all 0, also what a shorter one hadn't", x.who(0), 1);
            x.cell(0, 23, 1);
            x.sheet(0, -1, 0);
            x.sheet(0, sort, 24);
            due("all 0, once it was missing", x.who(0), 1);
        }
        by(29, "the others stay");
        x.sheet(1, 2, 2);
        x.cell(1, 1, 7);
        x.sheet(0, 2, 2);
        x.sheet(2, 0, 2);
        due("judge(1)", x.judge(1), 1);
    }

    private static void sheetMissing() {
        by(29, "missing (sort -1: n does not matter): 1");
        for (int n : new int[] {0, 1, 40, 41, -1, MIN, MAX}) {
            OneAlwaysUp x = new OneAlwaysUp();
            x.sheet(2, 1, 3);
            due("sheet(2, -1, " + n + ")", x.sheet(2, -1, n), 1);
            due("it is missing", x.cell(2, 0, 0), NOTHING);
            due("sheet(2, -1, " + n + ") again", x.sheet(2, -1, n), 1);
        }
    }

    private static void cellRefusals() {
        by(30, "BAD: no such SHEET; -11; -12");
        OneAlwaysUp x = new OneAlwaysUp();
        for (int s : beyond(0, 3)) {
            due("cell(" + s + ", 0, 0)", x.cell(s, 0, 0), BAD);
            due("BAD ahead of -12", x.cell(s, -1, 0), BAD);
        }
        for (int s = 0; s < 4; s++) {
            due("-11", x.cell(s, 0, 0), NOTHING);
            due("-11 ahead of -12", x.cell(s, -1, 0), NOTHING);
            x.sheet(s, s % 3, 0);
            due("an empty one: -12", x.cell(s, 0, 0), OUTSIDE);
        }
    }

    private static void cellEnds() {
        by(30, "item i of a SHEET: -12 a place outside");
        OneAlwaysUp x = new OneAlwaysUp();
        for (int n : new int[] {1, 7, 40}) {
            for (int sort = 0; sort < 3; sort++) {
                x.sheet(0, sort, n);
                due("the first of " + n, x.cell(0, 0, 1), 1);
                due("the last of " + n, x.cell(0, n - 1, 1), 1);
                for (int i : beyond(0, n - 1)) {
                    due("cell(0, " + i + ", 1)", x.cell(0, i, 1), OUTSIDE);
                }
            }
        }
    }

    private static void cellBits() {
        by(30, "of bytes its lowest 8 bits");
        OneAlwaysUp x = new OneAlwaysUp();
        int[][] bytes = {{0, 1}, {256, 1}, {-256, 1}, {512, 1}, {MIN, 1}, {1, 0}, {257, 0}, {255, 0}, {128, 0}, {65536, 1}, {258, 0}};
        for (int[] b : bytes) {
            x.sheet(0, 0, 1);
            x.cell(0, 0, b[0]);
            due(b[0] + " is a byte of 0", isZero(x), b[1]);
        }
        due("255 is no BRIDGE", judgeOf(x, 0, 255), 0);
        due("-254 is 2", judgeOf(x, 0, -254), NONE);
        due("128 is no BRIDGE", judgeOf(x, 0, 128), 0);
        by(30, "of shorts its lowest 16 bits");
        due("65536 is 0", judgeOf(x, 1, 65536), NONE);
        due("65538 is 2", judgeOf(x, 1, 65538), NONE);
        due("-65534 is 2", judgeOf(x, 1, -65534), NONE);
        due("256 is 256", judgeOf(x, 1, 256), 0);
        due("65535 is -1", judgeOf(x, 1, 65535), 0);
        due("32768 is -32768", judgeOf(x, 1, 32768), 0);
        by(30, "of ints all");
        due("65536 is 65536", judgeOf(x, 2, 65536), 0);
        due("256 is 256", judgeOf(x, 2, 256), 0);
        due("2 is 2", judgeOf(x, 2, 2), NONE);
        due("MIN is MIN", judgeOf(x, 2, MIN), 0);
    }

    private static int judgeOf(OneAlwaysUp x, int sort, int v) {
        x.sheet(0, sort, 1);
        x.cell(0, 0, v);
        return x.judge(0);
    }

    /** Whether a sheet's only number is 0, by a MARKET who has 0 UP in MINUTE 0. */
    private static int isZero(OneAlwaysUp x) {
        x.master(2, 0);
        return x.who(0) & 1;
    }

    private static void copyRefusals() {
        by(31, "BAD: no such SHEET; -11; -13: they are of unlike sorts; -12");
        OneAlwaysUp x = new OneAlwaysUp();
        for (int s : beyond(0, 3)) {
            due("copy(" + s + ", 0, 0, 0, 0)", x.copy(s, 0, 0, 0, 0), BAD);
            due("copy(0, 0, " + s + ", 0, 0)", x.copy(0, 0, s, 0, 0), BAD);
            due("BAD ahead of -12", x.copy(s, -1, 0, -1, -1), BAD);
        }
        due("both missing", x.copy(0, 0, 3, 0, 0), NOTHING);
        x.sheet(0, 0, 2);
        due("the other is missing", x.copy(0, 0, 3, 0, 0), NOTHING);
        due("the one is missing", x.copy(3, 0, 0, 0, 0), NOTHING);
        due("-11 ahead of -12", x.copy(0, -1, 3, -1, -1), NOTHING);
        due("-11 ahead of -12", x.copy(3, 9, 0, 9, 99), NOTHING);
        due("BAD ahead of -11", x.copy(3, 0, 4, 0, 0), BAD);
        due("BAD ahead of -11", x.copy(4, 0, 3, 0, 0), BAD);
        for (int a = 0; a < 3; a++) {
            for (int b = 0; b < 3; b++) {
                x.sheet(0, a, 2);
                x.sheet(3, b, 2);
                due("sorts " + a + " and " + b, x.copy(0, 0, 3, 0, 2), a == b ? 2 : UNLIKE);
                due("none, of sorts " + a + " and " + b, x.copy(0, 0, 3, 0, 0), a == b ? 0 : UNLIKE);
                due("-13 ahead of -12", x.copy(0, 0, 3, 0, 3), a == b ? OUTSIDE : UNLIKE);
                due("-13 ahead of -12 with n below 0", x.copy(0, 0, 3, 0, -1), a == b ? OUTSIDE : UNLIKE);
            }
        }
    }

    private static void copyOutside() {
        by(31, "-12 (also with n below 0)");
        OneAlwaysUp x = new OneAlwaysUp();
        x.sheet(0, 2, 5);
        x.sheet(1, 2, 3);
        due("as many as the smaller one has", x.copy(0, 0, 1, 0, 3), 3);
        due("one more", x.copy(0, 0, 1, 0, 4), OUTSIDE);
        due("the last ones", x.copy(0, 2, 1, 0, 3), 3);
        due("one beyond the last", x.copy(0, 3, 1, 0, 3), OUTSIDE);
        due("the last one to the last one", x.copy(0, 4, 1, 2, 1), 1);
        due("one beyond", x.copy(0, 5, 1, 0, 1), OUTSIDE);
        due("to one beyond", x.copy(0, 0, 1, 3, 1), OUTSIDE);
        due("to where two have no room", x.copy(0, 0, 1, 2, 2), OUTSIDE);
        due("to the last two", x.copy(0, 0, 1, 1, 2), 2);
        for (int n : new int[] {-1, -2, MIN, MAX, MAX - 1}) {
            due("n " + n, x.copy(0, 0, 1, 0, n), OUTSIDE);
            due("n " + n + " from 1", x.copy(0, 1, 1, 1, n), OUTSIDE);
        }
        for (int i : new int[] {-1, MIN, MAX}) {
            due("from " + i, x.copy(0, i, 1, 0, 1), OUTSIDE);
            due("to " + i, x.copy(0, 0, 1, i, 1), OUTSIDE);
            due("none from " + i, x.copy(0, i, 1, 0, 0), OUTSIDE);
            due("none to " + i, x.copy(0, 0, 1, i, 0), OUTSIDE);
        }
        due("no number has come", x.judge(1), NONE);
    }

    private static void copyNone() {
        by(31, "n 0: the end is no place outside");
        OneAlwaysUp x = new OneAlwaysUp();
        x.sheet(0, 1, 5);
        x.sheet(1, 1, 0);
        due("from the end to an empty one", x.copy(0, 5, 1, 0, 0), 0);
        due("beyond the end", x.copy(0, 6, 1, 0, 0), OUTSIDE);
        due("to beyond the end", x.copy(0, 5, 1, 1, 0), OUTSIDE);
        due("from an empty one", x.copy(1, 0, 0, 5, 0), 0);
        due("one from an empty one", x.copy(1, 0, 0, 0, 1), OUTSIDE);
        due("an empty one to itself", x.copy(1, 0, 1, 0, 0), 0);
    }

    private static void copyAsTheyWere() {
        by(31, "n numbers from item i on come to another one's item j on: n");
        for (int sort = 0; sort < 3; sort++) {
            OneAlwaysUp x = new OneAlwaysUp();
            tell(x, 0, sort, 1, 2, 3, 4, 5);
            tell(x, 1, sort, 9, 8, 7, 6);
            due("copy(0, 1, 1, 2, 2)", x.copy(0, 1, 1, 2, 2), 2);
            dueCells(x, 1, sort, 9, 8, 2, 3);
            dueCells(x, 0, sort, 1, 2, 3, 4, 5);
            due("copy(0, 0, 1, 0, 4)", x.copy(0, 0, 1, 0, 4), 4);
            x.cell(0, 0, 0);
            dueCells(x, 1, sort, 1, 2, 3, 4);
            due("the fifth is outside", x.cell(1, 4, 0), OUTSIDE);
        }
    }

    private static void copyItself() {
        by(31, "(as they were): onto itself");
        for (int sort = 0; sort < 3; sort++) {
            OneAlwaysUp x = new OneAlwaysUp();
            tell(x, 0, sort, 1, 2, 3, 4, 5, 6);
            due("up by one", x.copy(0, 0, 0, 1, 5), 5);
            dueCells(x, 0, sort, 1, 1, 2, 3, 4, 5);
            tell(x, 0, sort, 1, 2, 3, 4, 5, 6);
            due("down by one", x.copy(0, 1, 0, 0, 5), 5);
            dueCells(x, 0, sort, 2, 3, 4, 5, 6, 6);
            due("onto the same", x.copy(0, 0, 0, 0, 6), 6);
            dueCells(x, 0, sort, 2, 3, 4, 5, 6, 6);
            due("one too many", x.copy(0, 0, 0, 1, 6), OUTSIDE);
        }
    }

    private static void comesRefusals() {
        by(32, "BAD: no such SHEET, sort, n (0 .. 8)");
        OneAlwaysUp x = new OneAlwaysUp();
        x.sheet(1, 1, 40);
        for (int s : beyond(0, 3)) {
            due("comes(" + s + ", 1, 0, 1)", x.comes(s, 1, 0, 1), BAD);
        }
        for (int sort : beyond(0, 2)) {
            due("comes(1, " + sort + ", 0, 1)", x.comes(1, sort, 0, 1), BAD);
        }
        for (int n : beyond(0, 8)) {
            due("comes(1, 1, 0, " + n + ")", x.comes(1, 1, 0, n), BAD);
        }
        due("count(0)", x.count(0), 0);
        due("8 of them", x.comes(1, 1, 0, 8), 4);
    }

    private static void comesOrder() {
        by(32, "BAD; -13; -11; -12");
        OneAlwaysUp x = new OneAlwaysUp();
        due("missing", x.comes(0, 0, 0, 1), NOTHING);
        due("missing, and none asked for", x.comes(0, 0, 0, 0), NOTHING);
        due("-11 ahead of -12", x.comes(0, 0, -1, 1), NOTHING);
        due("BAD for the sort ahead of -11", x.comes(0, 3, 0, 1), BAD);
        due("BAD for n ahead of -11", x.comes(0, 0, 0, 9), BAD);
        for (int sort = 0; sort < 3; sort++) {
            x.sheet(0, sort, 3);
            for (int other = 0; other < 3; other++) {
                due("sort " + sort + " taken for " + other, x.comes(0, other, 3, 1), other == sort ? OUTSIDE : UNLIKE);
                due("and none asked for", x.comes(0, other, 0, 0), other == sort ? 0 : UNLIKE);
            }
            due("BAD for n ahead of -13", x.comes(0, (sort + 1) % 3, 0, 9), BAD);
            due("BAD for n ahead of -13", x.comes(0, (sort + 1) % 3, 0, -1), BAD);
        }
    }

    private static void comesNone() {
        by(32, "n 0: none comes");
        OneAlwaysUp x = new OneAlwaysUp();
        x.sheet(0, 2, 3);
        due("of three", x.comes(0, 2, 0, 0), 0);
        x.sheet(0, 2, 0);
        due("of none", x.comes(0, 2, 0, 0), 0);
        due("one of none", x.comes(0, 2, 0, 1), OUTSIDE);
        due("count(0)", x.count(0), 0);
    }

    private static void comesEnds() {
        by(32, "from one on, three by three (as of come()), n of them: how many came");
        OneAlwaysUp x = new OneAlwaysUp();
        tell(x, 0, 2, 7, 7, 0, 123, 9, 1, 200, 0);
        due("both, from the third number to the last", x.comes(0, 2, 2, 2), 2);
        int[][] want = {{1, 23, 9}, {2, 0, 0}};
        for (int sort = 0; sort < 2; sort++) {
            due("count(" + sort + ")", x.count(sort), 1);
            for (int what = 0; what < 3; what++) {
                due("told(" + sort + ", 0, " + what + ")", x.told(sort, 0, what), want[sort][what]);
            }
        }
        x = new OneAlwaysUp();
        x.sheet(0, 0, 40);
        for (int k = 0; k < 8; k++) {
            x.cell(0, 16 + 3 * k, k % 2);
            x.cell(0, 17 + 3 * k, k);
            x.cell(0, 18 + 3 * k, k + 1);
        }
        due("8 that end with the fortieth number", x.comes(0, 0, 16, 8), 8);
        for (int k = 0; k < 8; k++) {
            due("FROM of " + k, x.told(k % 2, k / 2, 1), k);
            due("PRICE of " + k, x.told(k % 2, k / 2, 2), k + 1);
        }
    }

    private static void comesOutside() {
        by(32, "-12: a place outside");
        OneAlwaysUp x = new OneAlwaysUp();
        x.sheet(0, 2, 9);
        for (int from : new int[] {-1, -2, -3, MIN, MIN + 1, 7, 8, 9, 10, MAX, MAX - 1, MAX - 2, MAX - 21}) {
            due("one from " + from, x.comes(0, 2, from, 1), OUTSIDE);
            due("eight from " + from, x.comes(0, 2, from, 8), OUTSIDE);
        }
        due("count(0)", x.count(0), 0);
        due("one from 6", x.comes(0, 2, 6, 1), 1);
    }

    private static void comesCutOff() {
        by(32, "-12: what stood ahead came");
        for (int size = 0; size < 12; size++) {
            OneAlwaysUp x = new OneAlwaysUp();
            x.sheet(0, 2, size);
            due("four of " + size + " numbers", x.comes(0, 2, 0, 4), OUTSIDE);
            due("count(0)", x.count(0), size / 3);
        }
        OneAlwaysUp x = new OneAlwaysUp();
        tell(x, 0, 1, 0, 101, 1, 0, 24, 2, 1, 203, 3, 1, 4);
        due("one that is none such is left out, the next comes, the last is cut off", x.comes(0, 1, 0, 4), OUTSIDE);
        due("count(0)", x.count(0), 1);
        due("count(1)", x.count(1), 1);
        due("told(1, 0, 1)", x.told(1, 0, 1), 3);
    }

    private static void comesLeftOut() {
        by(32, "how many came (others are left out)");
        int[][] none = {{-1, 0, 0}, {2, 0, 0}, {0, 24, 0}, {0, 300, 0}, {0, -1, 0}, {0, 0, 10}, {0, 0, -1}, {1, 124, 9}, {MAX, 0, 0}, {0, MIN, 0},
            {0, 0, MAX}};
        for (int[] one : none) {
            OneAlwaysUp x = new OneAlwaysUp();
            tell(x, 0, 2, 0, 5, 5, one[0], one[1], one[2], 0, 7, 7);
            due("the second is none such", x.comes(0, 2, 0, 3), 2);
            due("count(0)", x.count(0), 2);
            due("count(1)", x.count(1), 0);
            due("told(0, 1, 1)", x.told(0, 1, 1), 7);
            due("it alone", x.comes(0, 2, 3, 1), 0);
        }
    }

    private static void comesFull() {
        by(32, "others are left out: those for whom there is no room");
        OneAlwaysUp x = new OneAlwaysUp();
        tell(x, 0, 2, 0, 1, 1, 0, 2, 2, 0, 3, 3, 0, 4, 4, 0, 5, 5, 1, 6, 6, 0, 7, 7, 1, 8, 8);
        due("four ships, two carts", x.comes(0, 2, 0, 8), 6);
        due("count(0)", x.count(0), 4);
        due("count(1)", x.count(1), 2);
        due("told(0, 3, 1)", x.told(0, 3, 1), 4);
        due("told(1, 1, 1)", x.told(1, 1, 1), 8);
        due("two carts more", x.comes(0, 2, 0, 8), 2);
        due("none more", x.comes(0, 2, 0, 8), 0);
    }

    private static void comesBySort() {
        by(32, "by a SHEET that is taken for one of a sort");
        for (int sort = 0; sort < 3; sort++) {
            OneAlwaysUp x = new OneAlwaysUp();
            tell(x, 0, sort, 1, 119, 9, 0, 223, 8);
            due("sort " + sort, x.comes(0, sort, 0, 2), sort == 0 ? 1 : 2);
            due("told(1, 0, 1)", x.told(1, 0, 1), 19);
            tell(x, 0, sort, 256, 256 + 3, 256 + 4);
            due("256 in sort " + sort, x.comes(0, sort, 0, 1), sort == 0 ? 1 : 0);
            tell(x, 0, sort, 65536, 65536 + 203, 65536 + 4);
            due("65536 in sort " + sort, x.comes(0, sort, 0, 1), sort == 1 ? 1 : 0);
        }
    }
}
