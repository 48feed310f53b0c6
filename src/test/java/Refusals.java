/** "They change nothing": each refusal of each call, on days of which all that can be seen is compared, and so calls that only tell. */
public final class Refusals extends Due {
    public static void main(String[] args) {
        comers();
        comersFull();
        laws();
        masters();
        texts();
        plan();
        runs();
        sheets();
        copies();
        comes();
        images();
        telling();
        end();
    }

    private static void bad(String name, Call call) {
        dueAndStill(Due::halfDay, name, call, BAD);
    }

    private static void comers() {
        by(2, "BAD changes nothing");
        for (int sort : beyond(0, 1)) {
            bad("come(" + sort + ", 0, 0)", x -> x.come(sort, 0, 0));
        }
        for (int what : new int[] {-1, 24, 99, 124, 224, 299, 300, -100, MIN, MAX}) {
            bad("come(0, " + what + ", 0)", x -> x.come(0, what, 0));
            bad("come(1, " + what + ", 0)", x -> x.come(1, what, 0));
        }
        for (int price : beyond(0, 9)) {
            bad("come(0, 0, " + price + ")", x -> x.come(0, 0, price));
            bad("come(1, 0, " + price + ")", x -> x.come(1, 0, price));
        }
        by(3, "BAD changes nothing");
        int[] last = {2, 23, 9};
        for (int what = 0; what < 3; what++) {
            int w = what;
            for (int v : beyond(0, last[what])) {
                bad("set(0, 1, " + w + ", " + v + ")", x -> x.set(0, 1, w, v));
                bad("set(1, 0, " + w + ", " + v + ")", x -> x.set(1, 0, w, v));
            }
            for (int one : beyond(0, 1)) {
                bad("set(0, " + one + ", " + w + ", 0)", x -> x.set(0, one, w, 0));
                bad("set(1, " + one + ", " + w + ", 0)", x -> x.set(1, one, w, 0));
            }
            for (int sort : beyond(0, 1)) {
                bad("set(" + sort + ", 0, " + w + ", 0)", x -> x.set(sort, 0, w, 0));
            }
        }
        for (int what : beyond(0, 2)) {
            bad("set(0, 0, " + what + ", 0)", x -> x.set(0, 0, what, 0));
        }
    }

    private static void comersFull() {
        by(2, "FULL changes nothing; BAD ahead of FULL");
        for (int sort = 0; sort < 2; sort++) {
            int s = sort;
            dueAndStill(Due::fullDay, "come(" + s + ", 105, 5)", x -> x.come(s, 105, 5), FULL);
            dueAndStill(Due::fullDay, "come(" + s + ", 24, 5)", x -> x.come(s, 24, 5), BAD);
            dueAndStill(Due::fullDay, "come(" + s + ", 0, 10)", x -> x.come(s, 0, 10), BAD);
        }
        by(6, "FULL changes nothing; BAD ahead of FULL");
        dueAndStill(Due::fullDay, "master(0, 0)", x -> x.master(0, 0), FULL);
        dueAndStill(Due::fullDay, "master(5, 9)", x -> x.master(5, 9), FULL);
        dueAndStill(Due::fullDay, "master(6, 0)", x -> x.master(6, 0), BAD);
        dueAndStill(Due::fullDay, "master(0, 10)", x -> x.master(0, 10), BAD);
    }

    private static void laws() {
        by(4, "BAD changes nothing");
        for (int v : beyond(1, 4)) {
            bad("law(0, 0, " + v + ")", x -> x.law(0, 0, v));
        }
        for (int v : beyond(1, 9)) {
            bad("law(1, 0, " + v + ")", x -> x.law(1, 0, v));
        }
        for (int v : beyond(0, 9)) {
            bad("law(2, 0, " + v + ")", x -> x.law(2, 0, v));
        }
        for (int of : beyond(0, 1)) {
            bad("law(2, " + of + ", 1)", x -> x.law(2, of, 1));
        }
        for (int what : beyond(0, 2)) {
            bad("law(" + what + ", 0, 1)", x -> x.law(what, 0, 1));
        }
    }

    private static void masters() {
        by(6, "BAD changes nothing");
        for (int kind : beyond(0, 5)) {
            bad("master(" + kind + ", 0)", x -> x.master(kind, 0));
        }
        for (int number : beyond(0, 9)) {
            bad("master(0, " + number + ")", x -> x.master(0, number));
        }
    }

    private static void texts() {
        by(7, "BAD changes nothing");
        for (int letter : beyond(0, 255)) {
            bad("feed(" + letter + ")", x -> x.feed(letter));
            dueAndStill(Due::fullTape, "feed(" + letter + ")", x -> x.feed(letter), BAD);
        }
        by(7, "FULL changes nothing");
        dueAndStill(Due::fullTape, "feed(32)", x -> x.feed(32), FULL);
        by(8, "FULL changes nothing (THE TAPE stays)");
        dueAndStill(Due::fullDay, "text()", x -> x.text(), FULL);
        by(9, "BAD changes nothing");
        for (int text : beyond(0, 1)) {
            bad("force(" + text + ")", x -> x.force(text));
        }
        for (int text : beyond(0, 5)) {
            dueAndStill(Due::fullDay, "force(" + text + ")", x -> x.force(text), BAD);
        }
    }

    private static void plan() {
        by(10, "BAD changes nothing");
        for (int m : beyond(0, 23)) {
            bad("up(" + m + ", 1)", x -> x.up(m, 1));
        }
        for (int b : beyond(0, 2)) {
            bad("up(3, " + b + ")", x -> x.up(3, b));
        }
        by(27, "STATE changes nothing");
        dueAndStill(Due::fullTape, "back()", x -> x.back(), STATE);
        dueAndStill(OneAlwaysUp::new, "back()", x -> x.back(), STATE);
    }

    private static void runs() {
        by(17, "BAD changes nothing");
        for (int master : beyond(0, 1)) {
            bad("follow(" + master + ")", x -> x.follow(master));
        }
        by(16, "BAD changes nothing");
        for (int master : beyond(0, 1)) {
            bad("run(" + master + ", 0)", x -> x.run(master, 0));
        }
        for (int minute : new int[] {-2, 24, MIN, MAX}) {
            bad("run(0, " + minute + ")", x -> x.run(0, minute));
        }
    }

    private static void sheets() {
        by(29, "BAD changes nothing");
        for (int s : beyond(0, 3)) {
            bad("sheet(" + s + ", 0, 1)", x -> x.sheet(s, 0, 1));
            bad("sheet(" + s + ", -1, 1)", x -> x.sheet(s, -1, 1));
        }
        for (int s = 0; s < 4; s++) {
            int sheet = s;
            for (int sort : beyond(-1, 2)) {
                bad("sheet(" + s + ", " + sort + ", 1)", x -> x.sheet(sheet, sort, 1));
            }
            for (int sort = 0; sort < 3; sort++) {
                int so = sort;
                bad("sheet(" + s + ", " + sort + ", 41)", x -> x.sheet(sheet, so, 41));
                dueAndStill(Due::halfDay, "sheet(" + s + ", " + sort + ", -1)", x -> x.sheet(sheet, so, -1), NEGATIVE);
            }
        }
        by(30, "BAD, -11, -12 change nothing");
        for (int s : beyond(0, 3)) {
            bad("cell(" + s + ", 0, 1)", x -> x.cell(s, 0, 1));
        }
        dueAndStill(Due::halfDay, "cell(3, 0, 1)", x -> x.cell(3, 0, 1), NOTHING);
        int[] sizes = {12, 9, 4};
        for (int s = 0; s < 3; s++) {
            int sheet = s;
            for (int i : beyond(0, sizes[s] - 1)) {
                dueAndStill(Due::halfDay, "cell(" + s + ", " + i + ", 7)", x -> x.cell(sheet, i, 7), OUTSIDE);
            }
        }
    }

    private static void copies() {
        by(31, "BAD, -11, -13, -12 change nothing");
        for (int s : beyond(0, 3)) {
            bad("copy(" + s + ", 0, 0, 0, 1)", x -> x.copy(s, 0, 0, 0, 1));
            bad("copy(0, 0, " + s + ", 0, 1)", x -> x.copy(0, 0, s, 0, 1));
        }
        dueAndStill(Due::halfDay, "copy(0, 0, 3, 0, 1)", x -> x.copy(0, 0, 3, 0, 1), NOTHING);
        dueAndStill(Due::halfDay, "copy(3, 0, 0, 0, 1)", x -> x.copy(3, 0, 0, 0, 1), NOTHING);
        dueAndStill(Due::halfDay, "copy(0, 3, 1, 0, 1)", x -> x.copy(0, 3, 1, 0, 1), UNLIKE);
        dueAndStill(Due::halfDay, "copy(2, 3, 0, 0, 1)", x -> x.copy(2, 3, 0, 0, 1), UNLIKE);
        int[][] outside = {{0, 1, 12}, {1, 0, 12}, {0, 0, 13}, {-1, 0, 12}, {0, -1, 12}, {3, 1, -1}, {12, 0, 1}, {0, 12, 1}, {3, 0, MAX}, {3, 0, MIN}};
        for (int[] o : outside) {
            String name = "copy(0, " + o[0] + ", 0, " + o[1] + ", " + o[2] + ")";
            dueAndStill(Due::halfDay, name, x -> x.copy(0, o[0], 0, o[1], o[2]), OUTSIDE);
        }
    }

    private static void comes() {
        by(32, "BAD, -13, -11 change nothing, nor does -12, where nothing stood ahead");
        for (int s : beyond(0, 3)) {
            bad("comes(" + s + ", 0, 0, 1)", x -> x.comes(s, 0, 0, 1));
        }
        for (int sort : beyond(0, 2)) {
            bad("comes(0, " + sort + ", 0, 1)", x -> x.comes(0, sort, 0, 1));
        }
        for (int n : beyond(0, 8)) {
            bad("comes(0, 0, 0, " + n + ")", x -> x.comes(0, 0, 0, n));
        }
        dueAndStill(Due::halfDay, "comes(1, 0, 0, 2)", x -> x.comes(1, 0, 0, 2), UNLIKE);
        dueAndStill(Due::halfDay, "comes(3, 0, 0, 2)", x -> x.comes(3, 0, 0, 2), NOTHING);
        for (int from : new int[] {-1, 10, 11, 12, MIN, MAX}) {
            dueAndStill(Due::halfDay, "comes(0, 0, " + from + ", 2)", x -> x.comes(0, 0, from, 2), OUTSIDE);
        }
    }

    private static void images() {
        by(26, "image() changes nothing but THE IMAGE");
        OneAlwaysUp x = halfDay();
        due("image()", x.image(), 4);
        due("back()", x.back(), 4);
        OneAlwaysUp y = halfDay();
        y.image();
        dueRow("all that can be seen", portrait(x), portrait(y));
    }

    /** Those that only tell, with numbers that are such and with others. */
    private static void telling() {
        by(0, "a call that tells changes nothing");
        int[] several = {-2, -1, 0, 1, 2, 3, 5, 8, 23, 24, 25, 26, MIN, MAX};
        for (int v : several) {
            still("told(0, 0, " + v + ")", x -> x.told(0, 0, v));
            still("at(" + v + ")", x -> x.at(v));
            still("plan(" + v + ")", x -> x.plan(v));
            still("least(" + v + ")", x -> x.least(v));
            still("run(0, " + v + ")", x -> x.run(0, v));
            still("way(0, " + v + ")", x -> x.way(0, v));
            still("fourth(" + v + ")", x -> x.fourth(v));
            still("late(" + v + ")", x -> x.late(v));
            still("blame(" + v + ")", x -> x.blame(v));
            still("judge(" + v + ")", x -> x.judge(v));
            still("who(" + v + ")", x -> x.who(v));
            still("drawn(" + v + ")", x -> x.drawn(v));
            still("chance(7, " + v + ", 0)", x -> x.chance(7, v, 0));
            still("count(" + v + ")", x -> x.count(v));
            still("taken(0, " + v + ")", x -> x.taken(0, v));
        }
        still("fewest()", x -> x.fewest());
    }

    private static void still(String name, Call call) {
        dueAndStill(Due::halfDay, name, call, call.on(halfDay()));
    }
}
