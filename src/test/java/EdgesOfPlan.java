/** Promises 10 to 15 and 18 to 21, sentence by sentence: the plan, what it costs, the best ones, ways, late ones, blame. */
public final class EdgesOfPlan extends Due {
    private static final String[] ALL_DAY = {"0".repeat(24), "1".repeat(24), "2".repeat(24)};
    /** A rule by which it costs 9 to be through in no minute, and nothing else costs anything. */
    private static final String NEVER = "ship 9*(minute=24);cart 9*(minute=24);change 0;";

    public static void main(String[] args) {
        up();
        at();
        planCost();
        planChanges();
        planLawfulAtFirst();
        planLawfulBetween();
        planLawfulTillTheEnd();
        planThrough();
        leastEnds();
        leastFirstRow();
        leastHolds();
        leastOfManyOnes();
        leastOfThoseInTime();
        leastFollowsChanges();
        lay();
        fewest();
        fewestHolds();
        fewestNone();
        wayEnds();
        wayWalk();
        wayRow();
        wayLikeOnes();
        wayNone();
        fourth();
        lateEnds();
        lateMoreThan();
        lateBits();
        blameEnds();
        blameLess();
        blameLikeOnes();
        blameAlone();
        end();
    }

    private static String row(int was, int minute, int is) {
        return ("" + was).repeat(minute) + ("" + is).repeat(24 - minute);
    }

    private static void up() {
        by(10, "in THE PLAN a BRIDGE (0 .. 2) is UP in a MINUTE (0 .. 23): which was");
        OneAlwaysUp x = new OneAlwaysUp();
        for (int m : new int[] {0, 23}) {
            due("up(" + m + ", 2)", x.up(m, 2), 0);
            due("up(" + m + ", 1)", x.up(m, 1), 2);
            due("up(" + m + ", 1) again", x.up(m, 1), 1);
        }
        dueRow("the plan", planRow(x), "1" + "0".repeat(22) + "1");
        due("up(0, 0)", x.up(0, 0), 1);
        by(10, "BAD");
        for (int m : beyond(0, 23)) {
            due("up(" + m + ", 0)", x.up(m, 0), BAD);
        }
        for (int b : beyond(0, 2)) {
            due("up(0, " + b + ")", x.up(0, b), BAD);
            due("up(23, " + b + ")", x.up(23, b), BAD);
        }
        dueRow("the plan", planRow(x), "0".repeat(23) + "1");
    }

    private static void at() {
        by(11, "the BRIDGE that is UP in a MINUTE (0 .. 23); BAD");
        OneAlwaysUp x = new OneAlwaysUp();
        lay(x, "012012012012012012012012");
        for (int m = 0; m < 24; m++) {
            due("at(" + m + ")", x.at(m), m % 3);
        }
        for (int m : beyond(0, 23)) {
            due("at(" + m + ")", x.at(m), BAD);
        }
    }

    private static void planCost() {
        by(12, "COST: ship, cart of all of them, and change of each change (MINUTE 0 has none)");
        OneAlwaysUp x = ruled("ship 1;cart 10;change 90;");
        due("none", x.plan(0), 0);
        for (int n = 1; n < 5; n++) {
            x.come(0, 0, 0);
            due("ships", x.plan(0), n);
        }
        for (int n = 1; n < 5; n++) {
            x.come(1, 0, 0);
            due("carts", x.plan(0), 4 + 10 * n);
        }
        x.up(23, 1);
        due("a change in 23", x.plan(0), 44 + 90);
        lay(x, ALL_DAY[2]);
        due("another BRIDGE than 0 in MINUTE 0", x.plan(0), 44);
        x.up(0, 1);
        due("a change in 1", x.plan(0), 44 + 90);
        lay(x, "010101010101010101010101");
        due("23 changes", x.plan(0), 44 + 23 * 90);
        by(12, "COST (what 0) .. how many are THROUGH (3); BAD");
        for (int what : beyond(0, 3)) {
            due("plan(" + what + ")", x.plan(what), BAD);
        }
    }

    private static void planChanges() {
        by(12, "how many changes (MINUTE 0 has none)");
        OneAlwaysUp x = new OneAlwaysUp();
        for (int b = 0; b < 3; b++) {
            lay(x, ALL_DAY[b]);
            due("all day " + b, x.plan(1), 0);
        }
        x.up(0, 0);
        due("in 1", x.plan(1), 1);
        x.up(23, 0);
        due("in 1 and 23", x.plan(1), 2);
        lay(x, "012012012012012012012012");
        due("in each", x.plan(1), 23);
    }

    private static void planLawfulAtFirst() {
        by(12, "LAWFUL: a BRIDGE that is UP in MINUTE 0 stays so for HOLD MINUTES at least");
        for (int hold = 1; hold <= 4; hold++) {
            OneAlwaysUp x = new OneAlwaysUp();
            x.law(0, 0, hold);
            for (int n = 1; n <= 5; n++) {
                lay(x, row(1, n, 2));
                due("for " + n + " of " + hold, x.plan(2), n >= hold ? 1 : 0);
            }
        }
    }

    private static void planLawfulBetween() {
        by(12, "LAWFUL: each BRIDGE that becomes UP stays so for HOLD MINUTES at least");
        for (int hold = 1; hold <= 4; hold++) {
            OneAlwaysUp x = new OneAlwaysUp();
            x.law(0, 0, hold);
            for (int n = 1; n <= 5; n++) {
                lay(x, "0".repeat(9) + "1".repeat(n) + "0".repeat(15 - n));
                due("1 for " + n + " of " + hold, x.plan(2), n >= hold ? 1 : 0);
                lay(x, "0".repeat(9) + "2".repeat(n) + "1".repeat(15 - n));
                due("2 for " + n + " of " + hold, x.plan(2), n >= hold ? 1 : 0);
                lay(x, "0".repeat(4) + "1".repeat(4) + "2".repeat(n) + "1".repeat(4) + "0".repeat(12 - n));
                due("2 for " + n + " of " + hold + " between 1 and 1", x.plan(2), n >= hold ? 1 : 0);
            }
        }
    }

    private static void planLawfulTillTheEnd() {
        by(12, "LAWFUL: or till MINUTE 23");
        for (int hold = 1; hold <= 4; hold++) {
            OneAlwaysUp x = new OneAlwaysUp();
            x.law(0, 0, hold);
            for (int n = 1; n <= 5; n++) {
                lay(x, row(0, 24 - n, 1));
                due("the last for " + n + " of " + hold, x.plan(2), 1);
                lay(x, row(0, 23 - n, 1).substring(0, 23) + "2");
                due("the last but one for " + n + " of " + hold, x.plan(2), n >= hold ? 1 : 0);
            }
            lay(x, ALL_DAY[2]);
            due("all day", x.plan(2), 1);
        }
    }

    private static void planThrough() {
        by(12, "how many are THROUGH");
        OneAlwaysUp x = new OneAlwaysUp();
        due("none there", x.plan(3), 0);
        for (int n = 0; n < 4; n++) {
            x.come(0, 123, 0);
            x.come(1, 23, 0);
        }
        due("none", x.plan(3), 0);
        x.up(22, 1);
        due("not ahead of FROM", x.plan(3), 0);
        x.up(23, 2);
        due("the carts", x.plan(3), 4);
        x.up(23, 1);
        due("all", x.plan(3), 8);
    }

    private static void leastEnds() {
        by(13, "COST (what 0), changes (1), the BRIDGE in MINUTE what less 2 (2 .. 25)");
        OneAlwaysUp x = new OneAlwaysUp();
        x.come(0, 100, 9);
        x.come(0, 223, 9);
        due("least(0)", x.least(0), 1);
        due("least(1)", x.least(1), 1);
        due("least(2), MINUTE 0", x.least(2), 1);
        due("least(3), MINUTE 1", x.least(3), 1);
        due("least(24), MINUTE 22", x.least(24), 1);
        due("least(25), MINUTE 23", x.least(25), 2);
        for (int what : beyond(0, 25)) {
            due("least(" + what + ")", x.least(what), BAD);
        }
        by(13, "LEAST of no SHIPS and CARTS");
        dueRow("least", leastRow(new OneAlwaysUp()), ALL_DAY[0]);
    }

    private static void leastFirstRow() {
        by(13, "of like ones the first row (by the BRIDGE in MINUTE 0, then 1, ..)");
        OneAlwaysUp x = ruled(NEVER);
        x.come(0, 23, 0);
        dueRow("a ship at 0 in 23", leastRow(x), ALL_DAY[0]);
        x.set(0, 0, 0, 1);
        dueRow("a ship at 1 in 23", leastRow(x), row(0, 23, 1));
        x.set(0, 0, 1, 0);
        dueRow("a ship at 1 in 0 may be through in 23", leastRow(x), row(0, 23, 1));
        x.come(0, 223, 0);
        dueRow("and one at 2 in 23", leastRow(x), "0".repeat(22) + "12");
        x.set(0, 1, 1, 0);
        dueRow("2 then 1 are behind 1 then 2", leastRow(x), "0".repeat(22) + "12");
        x.come(1, 23, 0);
        dueRow("a cart at 0 in 23 can cross then", leastRow(x), "0".repeat(22) + "12");
        x = ruled(NEVER);
        x.come(1, 0, 0);
        dueRow("a cart at 0 in 0 can cross in 23", leastRow(x), row(0, 23, 1));
        x.set(1, 0, 0, 1);
        dueRow("a cart at 1", leastRow(x), ALL_DAY[0]);
        x = ruled("ship 0;cart 0;change 0;");
        x.come(0, 105, 9);
        x.come(1, 5, 9);
        dueRow("where nothing costs anything", leastRow(x), ALL_DAY[0]);
        x = new OneAlwaysUp();
        x.come(0, 100, 1);
        x.come(0, 200, 1);
        due("1 for a minute: least(0)", x.least(0), 1 + 1);
        dueRow("1, then 2", leastRow(x), row(1, 1, 2));
        x.set(0, 0, 2, 2);
        dueRow("of a dearer one the first", leastRow(x), row(1, 1, 2));
        x.set(0, 1, 2, 3);
        dueRow("of the dearest one the first", leastRow(x), row(2, 1, 1));
    }

    private static void leastHolds() {
        by(13, "of all LAWFUL plans");
        for (int hold = 1; hold <= 4; hold++) {
            OneAlwaysUp x = ruled("ship waited;cart waited;change 0;");
            x.law(0, 0, hold);
            x.come(0, 0, 0);
            x.come(0, 101, 0);
            due("0 in 0, 1 in 1, by HOLD " + hold, x.least(0), hold - 1);
            x = ruled(NEVER);
            x.law(0, 0, hold);
            x.come(0, 123, 0);
            dueRow("the last one alone in 23, by HOLD " + hold, leastRow(x), row(0, 23, 1));
            x.come(0, 222, 0);
            due("2 in 22, 1 in 23, by HOLD " + hold, x.least(0), 0);
            dueRow("so 2 for " + hold, leastRow(x), "0".repeat(23 - hold) + "2".repeat(hold) + "1");
            x.come(0, 21, 0);
            due("0 in 21, by HOLD " + hold, x.least(0), hold == 1 ? 0 : 9);
        }
    }

    private static void leastOfManyOnes() {
        by(13, "4 SHIPS, 4 CARTS");
        OneAlwaysUp x = new OneAlwaysUp();
        for (int n = 0; n < 4; n++) {
            x.come(0, 100 + 6 * n, 9);
            x.come(1, 103 + 6 * n, 9);
        }
        due("least(0): 1 for ships, then down for carts", x.least(0), 7);
        due("least(1)", x.least(1), 7);
        dueRow("1 as short as can be, but first where it is like", leastRow(x), "100000" + "100000" + "100000" + "100000");
        for (int n = 0; n < 4; n++) {
            x.set(0, n, 1, 23);
            x.set(1, n, 1, 23);
        }
        due("all in 23: the ships go, or the carts", x.least(0), 36);
        dueRow("the carts", leastRow(x), ALL_DAY[0]);
    }

    private static void leastOfThoseInTime() {
        by(13, "who comes in the MINUTE of a change is counted once");
        OneAlwaysUp x = ruled("ship 10+waited;cart 20+waited;change 1;");
        x.come(0, 0, 0);
        x.come(0, 105, 0);
        due("least(0)", x.least(0), 21);
        dueRow("1 from 5 on", leastRow(x), row(0, 5, 1));
        x.come(1, 5, 0);
        due("a cart at 0 in 5", x.least(0), 41);
        dueRow("1 from 5 on", leastRow(x), row(0, 5, 1));
        x.come(1, 105, 0);
        due("a cart at 1 in 5 waits, or the ship does", x.least(0), 21 + 20 + 22);
        dueRow("the ship, till 6", leastRow(x), row(0, 6, 1));
    }

    private static void leastFollowsChanges() {
        by(13, "LEAST is of the day as it is");
        OneAlwaysUp x = new OneAlwaysUp();
        due("none", x.least(0), 0);
        x.come(0, 0, 5);
        x.come(1, 0, 5);
        due("behind come(): a cart waits a minute, then a change", x.least(0), 6);
        x.set(1, 0, 2, 3);
        due("behind set()", x.least(0), 4);
        x.law(0, 0, 4);
        due("behind law(): 0 for four, or the ship for four", x.least(0), 13);
        read(x, "ship 7*waited;cart 8*waited;change 50;");
        x.force(1);
        due("behind force(): 0 from the fifth minute on", x.least(0), 28 + 50);
        x.image();
        x.force(0);
        due("behind force(0)", x.least(0), 13);
        x.back();
        due("behind back()", x.least(0), 78);
        tell(x, 0, 2, 0, 0, 0);
        x.comes(0, 2, 0, 1);
        due("behind comes(): another ship at 0 in 0", x.least(0), 32 + 50);
        x.law(1, 0, 9);
        x.master(0, 0);
        x.up(5, 2);
        due("behind calls that do not matter to it", x.least(0), 82);
    }

    private static void lay() {
        by(14, "THE PLAN truly becomes LEAST: COST");
        OneAlwaysUp x = new OneAlwaysUp();
        lay(x, "012012012012012012012012");
        due("lay() of none", x.lay(), 0);
        dueRow("the plan", planRow(x), ALL_DAY[0]);
        x.law(0, 0, 4);
        x.come(0, 100, 9);
        x.come(0, 223, 9);
        due("lay()", x.lay(), 1);
        dueRow("the plan", planRow(x), row(1, 23, 2));
        due("plan(0)", x.plan(0), 1);
        due("plan(2)", x.plan(2), 1);
        x.up(23, 0);
        dueRow("LEAST is still what it was", leastRow(x), row(1, 23, 2));
        due("lay() again", x.lay(), 1);
        due("at(23)", x.at(23), 2);
    }

    private static void fewest() {
        by(15, "the fewest changes by which all SHIPS and CARTS are THROUGH");
        OneAlwaysUp x = new OneAlwaysUp();
        due("none there", x.fewest(), 0);
        for (int b = 0; b < 3; b++) {
            x.come(0, 100 * b, 0);
            due("ships at " + (b + 1), x.fewest(), b);
            x.come(1, 100 * b, 0);
            due("a cart, too", x.fewest(), Math.max(b, 1));
        }
        x = new OneAlwaysUp();
        for (int b = 0; b < 3; b++) {
            x.come(1, 100 * b, 0);
            due("carts at " + (b + 1), x.fewest(), b < 2 ? 0 : 1);
        }
        x = new OneAlwaysUp();
        x.come(0, 123, 0);
        x.come(1, 122, 0);
        due("a cart at 1 in 22, a ship in 23", x.fewest(), 1);
        x.come(0, 121, 0);
        x.come(1, 120, 0);
        due("the ship of 21 can go in 23", x.fewest(), 1);
        x.come(0, 22, 0);
        due("a ship at 0 in 22", x.fewest(), 1);
        x.come(1, 21, 0);
        due("a cart at 0 in 21 crosses in 23", x.fewest(), 1);
        x.come(0, 221, 0);
        due("a ship at 2 in 21", x.fewest(), 2);
        by(15, "FEWEST is not of COST");
        x = ruled("ship waited*9;cart 0;change 0;");
        x.come(0, 0, 9);
        x.come(0, 101, 9);
        x.come(0, 3, 9);
        due("0, then 1", x.fewest(), 1);
        due("though LEAST has more", x.least(1), 2);
    }

    private static void fewestHolds() {
        by(15, "of any LAWFUL plan");
        for (int hold = 1; hold <= 4; hold++) {
            OneAlwaysUp x = new OneAlwaysUp();
            x.law(0, 0, hold);
            x.come(0, 123, 0);
            x.come(0, 22, 0);
            due("0 in 22, 1 in 23", x.fewest(), 1);
            x.set(0, 1, 1, 23 - hold);
            x.come(0, 222, 0);
            due("2 in 22 is for " + hold + ": 0 can't be UP in " + (23 - hold), x.fewest(), NONE);
            x.set(0, 1, 1, 22 - hold);
            due("but in " + (22 - hold), x.fewest(), 2);
        }
    }

    private static void fewestNone() {
        by(15, "NONE");
        OneAlwaysUp x = new OneAlwaysUp();
        x.come(0, 23, 0);
        due("a ship in 23", x.fewest(), 0);
        x.come(0, 122, 0);
        due("another bridge's in 22", x.fewest(), 1);
        x.set(0, 1, 1, 23);
        due("another bridge's in 23", x.fewest(), NONE);
        due("LEAST is for those who can", x.least(0), 0);
        x.set(0, 1, 0, 0);
        due("both at one", x.fewest(), 0);
        x.come(1, 23, 0);
        due("and a cart there in 23", x.fewest(), NONE);
        x.set(1, 0, 0, 1);
        due("and a cart elsewhere", x.fewest(), 0);
        x = new OneAlwaysUp();
        for (int b = 0; b < 3; b++) {
            x.come(1, 100 * b + 23, 0);
            due("carts in 23 at " + (b + 1), x.fewest(), b < 2 ? 0 : NONE);
        }
    }

    private static void wayEnds() {
        by(18, "the MINUTE (what 0), the BRIDGE (1); BAD");
        OneAlwaysUp x = new OneAlwaysUp();
        x.come(0, 0, 0);
        due("no cart there", x.way(0, 0), BAD);
        for (int n = 0; n < 4; n++) {
            x.come(1, 100 + n, 0);
            due("way(" + n + ", 0)", x.way(n, 0), n);
            due("way(" + n + ", 1)", x.way(n, 1), 1);
            due("the one behind", x.way(n + 1, 0), BAD);
        }
        for (int cart : beyond(0, 3)) {
            due("way(" + cart + ", 0)", x.way(cart, 0), BAD);
        }
        for (int what : beyond(0, 1)) {
            due("way(0, " + what + ")", x.way(0, what), BAD);
        }
    }

    private static void wayWalk() {
        by(18, "it could be there from MINUTE FROM and WALK times how many BRIDGES that is from its own");
        for (int walk = 1; walk <= 9; walk++) {
            OneAlwaysUp x = new OneAlwaysUp();
            x.law(1, 0, walk);
            x.come(1, 2, 0);
            due("from 0 to 1", x.way(0, 0), 2 + walk);
            due("way(0, 1)", x.way(0, 1), 1);
            lay(x, "0".repeat(2 + walk) + "1".repeat(22 - walk));
            due("its own is down as soon", x.way(0, 1), 0);
            due("way(0, 0)", x.way(0, 0), 2 + walk);
            lay(x, "0".repeat(3 + walk) + "1".repeat(21 - walk));
            due("1 is down a minute sooner", x.way(0, 1), 1);
            due("way(0, 0)", x.way(0, 0), 2 + walk);
        }
    }

    private static void wayRow() {
        by(18, "WALK (minutes from a BRIDGE to the next one): from 0 to 2 it is two");
        OneAlwaysUp x = new OneAlwaysUp();
        x.law(1, 0, 2);
        x.come(1, 0, 0);
        lay(x, "000111111111111111111111");
        due("1 in 2", x.way(0, 0), 2);
        lay(x, "001111111111111111111111");
        due("its own in 2", x.way(0, 1), 0);
        x.set(1, 0, 0, 2);
        lay(x, ALL_DAY[2]);
        due("from 2 to 1", x.way(0, 0), 2);
        due("0 is not as near: else it were the least", x.way(0, 1), 1);
        lay(x, "221122222222222222222222");
        due("its own in 2, when 1 is up", x.way(0, 1), 2);
        lay(x, "222112222222222222222222");
        due("1 in 2, when it is not up yet", x.way(0, 1), 1);
        lay(x, "220000000000000000000000");
        due("its own and 1 in 2: the least", x.way(0, 1), 1);
        x.set(1, 0, 0, 1);
        lay(x, ALL_DAY[1]);
        due("from 1 to both: the least", x.way(0, 1), 0);
        lay(x, "110000000000000000000000");
        due("its own is down when 0 is up", x.way(0, 1), 1);
    }

    private static void wayLikeOnes() {
        by(18, "the one at which the first MINUTE from then on in which it isn't UP is soonest; of like ones the least");
        OneAlwaysUp x = new OneAlwaysUp();
        x.law(1, 0, 1);
        x.come(1, 210, 0);
        lay(x, ALL_DAY[0]);
        due("its own, at once", x.way(0, 1), 2);
        due("way(0, 0)", x.way(0, 0), 10);
        lay(x, "000000000022222222222222");
        due("1 in 11, 0 in 12", x.way(0, 1), 1);
        lay(x, "000000000022111111111111");
        due("1 in 11", x.way(0, 0), 11);
        lay(x, "000000000021111111111111");
        due("its own in 11, when 1 is up", x.way(0, 1), 2);
        lay(x, "000000000020000000000000");
        due("1 and its own in 11", x.way(0, 1), 1);
        x.set(1, 0, 0, 0);
        lay(x, "000000000001111111111111");
        due("its own in 11, 1 is up by then", x.way(0, 1), 0);
        lay(x, "000000000002222222222222");
        due("its own and 1 in 11: the least", x.way(0, 1), 0);
    }

    private static void wayNone() {
        by(18, "NONE: the first MINUTE would be beyond 23");
        for (int walk = 1; walk <= 9; walk++) {
            OneAlwaysUp x = new OneAlwaysUp();
            x.law(1, 0, walk);
            x.come(1, 23 - walk, 0);
            due("in 23", x.way(0, 0), 23);
            due("at 1", x.way(0, 1), 1);
            x.set(1, 0, 1, 24 - walk);
            due("too late", x.way(0, 0), NONE);
            due("too late", x.way(0, 1), NONE);
            x.up(23, 2);
            due("its own in 23", x.way(0, 0), 23);
            due("its own", x.way(0, 1), 0);
            by(18, "BAD ahead of NONE");
            x.up(23, 0);
            due("way(0, 2)", x.way(0, 2), BAD);
            due("way(1, 0)", x.way(1, 0), BAD);
        }
    }

    private static void fourth() {
        by(19, "how much less THE PLAN would COST, were all CARTS of a BRIDGE THROUGH in MINUTE FROM");
        OneAlwaysUp x = new OneAlwaysUp();
        for (int b = 0; b < 3; b++) {
            due("none there", x.fourth(b), 0);
        }
        x.come(1, 22, 1);
        due("one at 0", x.fourth(0), 2);
        x.come(1, 23, 3);
        due("both at 0", x.fourth(0), 5);
        x.come(1, 122, 9);
        due("one at 1, which is down", x.fourth(1), 0);
        due("it is nothing to 0", x.fourth(0), 5);
        x.come(0, 100, 9);
        due("ships do not matter", x.fourth(1), 0);
        x.up(22, 1);
        due("one at 0 does not wait, nor does the other", x.fourth(0), 3);
        due("the one at 1 waits", x.fourth(1), 9);
        x = new OneAlwaysUp();
        for (int n = 0; n < 4; n++) {
            x.come(1, 0, 9);
        }
        due("four that cost the bound", x.fourth(0), 4 * 99);
        x = ruled("ship 0;cart 99*(waited=0);change 0;");
        for (int n = 0; n < 4; n++) {
            x.come(1, 0, 9);
        }
        due("below 0", x.fourth(0), -4 * 99);
        by(19, "BAD");
        for (int b : beyond(0, 2)) {
            due("fourth(" + b + ")", x.fourth(b), BAD);
        }
    }

    private static void lateEnds() {
        by(20, "n minutes (0 .. 24); BAD");
        OneAlwaysUp x = new OneAlwaysUp();
        x.come(0, 100, 0);
        due("late(0)", x.late(0), 1);
        due("late(23)", x.late(23), 1);
        due("late(24)", x.late(24), 0);
        for (int n : beyond(0, 24)) {
            due("late(" + n + ")", x.late(n), BAD);
        }
        due("none there", new OneAlwaysUp().late(0), 0);
    }

    private static void lateMoreThan() {
        by(20, "that WAITED more than n minutes");
        for (int waited = 0; waited < 24; waited++) {
            OneAlwaysUp x = new OneAlwaysUp();
            x.come(0, 100, 0);
            x.come(1, 0, 0);
            x.up(waited, 1);
            due("late(" + waited + ")", x.late(waited), 0);
            if (waited > 0) {
                due("late(" + (waited - 1) + ")", x.late(waited - 1), 1 + 16);
            }
        }
    }

    private static void lateBits() {
        by(20, "SHIPS (bits 0 .. 3), CARTS (bits 4 .. 7)");
        OneAlwaysUp x = new OneAlwaysUp();
        for (int n = 0; n < 4; n++) {
            x.come(0, 200, 0);
            due("ships", x.late(0), (2 << n) - 1);
        }
        for (int n = 0; n < 4; n++) {
            x.come(1, 0, 0);
            due("carts", x.late(0), (32 << n) - 1);
        }
        for (int n = 0; n < 4; n++) {
            x.set(0, n, 0, 0);
            due("all but ship " + n, x.late(0), 255 - (1 << n));
            x.set(0, n, 0, 2);
            x.set(1, n, 0, 2);
            due("all but cart " + n, x.late(0), 255 - (16 << n));
            x.set(1, n, 0, 0);
        }
    }

    private static void blameEnds() {
        by(21, "the MINUTE (what 0), the BRIDGE (1), COST then (2); BAD");
        OneAlwaysUp x = new OneAlwaysUp();
        for (int what = 0; what < 3; what++) {
            due("no one there: NONE", x.blame(what), NONE);
        }
        x.come(0, 100, 9);
        int[] want = {0, 1, 1};
        for (int what = 0; what < 3; what++) {
            due("in MINUTE 0: blame(" + what + ")", x.blame(what), want[what]);
        }
        x.set(0, 0, 0, 2);
        x.set(0, 0, 1, 23);
        want = new int[] {23, 2, 1};
        for (int what = 0; what < 3; what++) {
            due("in MINUTE 23: blame(" + what + ")", x.blame(what), want[what]);
        }
        for (int what : beyond(0, 2)) {
            due("blame(" + what + ")", x.blame(what), BAD);
        }
        by(21, "BAD ahead of NONE");
        for (int what : beyond(0, 2)) {
            due("blame(" + what + ")", new OneAlwaysUp().blame(what), BAD);
        }
    }

    private static void blameLess() {
        by(21, "if less than now; NONE");
        OneAlwaysUp x = new OneAlwaysUp();
        x.come(0, 122, 0);
        due("nothing to win", x.blame(0), NONE);
        x.set(0, 0, 2, 1);
        due("2 now, 2 in 22, 2 in 23 (1 waited, 1 change)", x.blame(0), NONE);
        x.set(0, 0, 2, 2);
        due("4 now, 2 in 22, 3 in 23", x.blame(0), 22);
        due("COST then", x.blame(2), 2);
        x = ruled("ship 10*(minute=24);cart 0;change 10;");
        x.come(0, 123, 0);
        due("10 now, 10 then", x.blame(2), NONE);
        x = ruled("ship 10*(minute=24);cart 0;change 9;");
        x.come(0, 123, 0);
        due("10 now, 9 then", x.blame(2), 9);
        due("the MINUTE", x.blame(0), 23);
    }

    private static void blameLikeOnes() {
        by(21, "of like ones the first MINUTE, then BRIDGE");
        OneAlwaysUp x = ruled("ship 9*(minute=24);cart 9*(minute=24);change 0;");
        x.come(0, 105, 0);
        due("any MINUTE from 5 on: the first", x.blame(0), 5);
        due("the BRIDGE", x.blame(1), 1);
        x.come(0, 203, 0);
        due("2 from 3 on", x.blame(0), 3);
        due("the BRIDGE", x.blame(1), 2);
        x.set(0, 1, 1, 5);
        due("either in 5", x.blame(0), 5);
        due("the first BRIDGE", x.blame(1), 1);
        due("COST then", x.blame(2), 9);
        x = ruled("ship 9*(minute=24);cart 9*(minute=24);change 0;");
        x.come(1, 107, 0);
        lay(x, ALL_DAY[1]);
        due("a cart at 1", x.blame(0), 7);
        due("by 0 or 2: the first", x.blame(1), 0);
        lay(x, ALL_DAY[0]);
        x.set(1, 0, 0, 0);
        due("a cart at 0 by 1 or 2: the first", x.blame(1), 1);
        by(21, "other BRIDGES than are UP in them, least ahead of first");
        x = new OneAlwaysUp();
        x.come(0, 103, 2);
        x.come(0, 209, 9);
        due("the dearer one, though later", x.blame(0), 9);
        due("the BRIDGE", x.blame(1), 2);
        due("COST then", x.blame(2), 42 + 2);
    }

    private static void blameAlone() {
        by(21, "were that one UP in that MINUTE alone");
        OneAlwaysUp x = new OneAlwaysUp();
        x.law(0, 0, 4);
        x.come(0, 110, 9);
        due("LAWFUL or not", x.blame(0), 10);
        due("two changes", x.blame(2), 2);
        dueRow("THE PLAN stays", planRow(x), ALL_DAY[0]);
        lay(x, "000000000002222222222222");
        due("in 10, ahead of 2: two changes", x.blame(2), 2);
        x = new OneAlwaysUp();
        lay(x, "000000000010000000000000");
        due("a change that is of no use", x.blame(0), 10);
        due("the BRIDGE that is UP around it", x.blame(1), 0);
        due("no change", x.blame(2), 0);
        lay(x, "200000000000000000000000");
        due("in MINUTE 0", x.blame(0), 0);
        lay(x, "000000000000000000000001");
        due("in MINUTE 23", x.blame(0), 23);
        lay(x, row(0, 12, 1));
        due("one change can't be mended by a MINUTE", x.blame(0), NONE);
    }
}
