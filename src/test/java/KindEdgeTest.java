/** Terms, part 1: what each thing has at first, what bounds it, and what each KIND does, at the ends. */
public final class KindEdgeTest {
    private static final int BAD = -1000000001, FULL = -1000000003, NONE = -1000000005, NOTHING = -1000000011;
    private static final int LOG = 0, HEAVY = 1, SPLIT = 2, KNOTTED = 3, BRANDED = 4, SUNK = 5;
    private static final Due d = new Due();

    public static void main(String[] args) {
        roomAtFirst();
        boomAtFirst();
        logsAtMost();
        logsAtFirst();
        cameFromOneOn();
        rulesAtFirst();
        floodOfTheLatestWeek();
        weekAtMost();
        kindsUnderOneAnother();
        driftHeldWithin();
        driftHeldWithinWrapped();
        driftWithoutText();
        driftWithoutTextAtTens();
        driftOfHeavy();
        driftOfKnotted();
        driftOfSplit();
        driftOfBranded();
        driftOfSunk();
        driftWhereItHasGone();
        claimed();
        worth();
        d.end();
    }

    private static LogLetters fresh(String about) {
        d.about("terms 1: " + about);
        return new LogLetters();
    }

    /** One more log, laid into a reach: its number. */
    private static int logAt(LogLetters x, int kind, int reach) {
        int log = x.log(kind, 0, 1);
        x.lays(log, reach);
        return log;
    }

    // ---- at first, at most

    private static void roomAtFirst() {
        for (int r = 0; r < 12; r++) {
            LogLetters x = fresh("ROOM is 4 at first");
            d.due("ROOM of " + r, x.reach(r, 0, 4), 4);
        }
        for (int r = 1; r < 12; r++) {
            LogLetters x = fresh("ROOM is 4 at first: the fourth goes into " + r + ", the fifth does not");
            Due.text(x, "drift 1");
            for (int i = 0; i < 3; i++) {
                logAt(x, SUNK, r);
            }
            int fourth = logAt(x, LOG, r - 1);
            int fifth = logAt(x, LOG, r - 1);
            x.weeks(1);
            d.due("the fourth", x.told(fourth, 3), r);
            d.due("the fifth", x.told(fifth, 3), r - 1);
        }
    }

    private static void boomAtFirst() {
        for (int r = 0; r < 12; r++) {
            LogLetters x = fresh("no BOOM at first");
            d.due("BOOM of " + r, x.reach(r, 1, 0), 0);
        }
        LogLetters x = fresh("no BOOM at first: it goes through all");
        Due.text(x, "drift 12");
        logAt(x, LOG, 0);
        d.due("weeks(1)", x.weeks(1), 1);
    }

    private static void logsAtMost() {
        LogLetters x = fresh("LOGS, 12 at most, numbered from 0");
        for (int i = 0; i < 12; i++) {
            d.due("told(" + i + ", 0), not there yet", x.told(i, 0), BAD);
            d.due("log " + i, x.log(SUNK, i, 1), i);
            d.due("its LETTER", x.told(i, 1), i);
        }
        d.due("the thirteenth", x.log(SUNK, 12, 1), FULL);
        d.due("told(12, 0)", x.told(12, 0), BAD);
        d.due("how many", x.count(0), 12);
        d.due("deal(1)", x.deal(1), 0);
        d.due("how many", x.count(0), 12);
    }

    private static void logsAtFirst() {
        LogLetters x = fresh("a LOG is at reach 0 at first, CAME 0");
        x.reach(0, 0, 1);
        for (int i = 0; i < 6; i++) {
            x.log(i, i, 50);
        }
        x.deal(6);
        for (int i = 0; i < 12; i++) {
            d.due("REACH of " + i + ", whatever the ROOM", x.told(i, 3), 0);
            d.due("CAME of " + i, x.told(i, 4), 0);
        }
    }

    private static void cameFromOneOn() {
        LogLetters x = fresh("CAME: the how-manieth it was, from 1 on");
        Due.text(x, "drift 1");
        for (int i = 0; i < 12; i++) {
            logAt(x, LOG, i);
        }
        for (int week = 1; week <= 12; week++) {
            d.due("weeks(1)", x.weeks(1), 1);
            for (int i = 0; i < 12; i++) {
                d.due("CAME of " + i + " behind " + week, x.told(i, 4), i >= 12 - week ? 12 - i : 0);
            }
        }
        x = fresh("CAME is 0 of one that is out");
        int log = logAt(x, LOG, 13);
        d.due("CAME", x.told(log, 4), 0);
    }

    private static void rulesAtFirst() {
        LogLetters x = fresh("FLOOD 3, DRY 0, SAW 0, SAWN 0, THE WEEK 0, z 1, THE WORD empty at first");
        int[] counts = {0, 0, 3, 0, 0, 0, 0, 0, 0, 1};
        for (int what = 0; what < counts.length; what++) {
            d.due("count(" + what + ")", x.count(what), counts[what]);
        }
        d.due("rule(2, 3)", x.rule(2, 3), 3);
        d.due("rule(0, 0)", x.rule(0, 0), 0);
        d.due("rule(1, 0)", x.rule(1, 0), 0);
        d.due("SAWN", x.river(2), 0);
        d.due("seed(1)", x.seed(1), 1);
        d.due("unword()", x.unword(), 0);
        d.due("DRIFTS by FLOOD 3", x.told(x.log(LOG, 0, 9), 5), 3);
        d.due("CLAIMED by SAW 0", x.told(0, 6), 0);
        for (int key = 0; key < 3; key++) {
            d.due("why(" + key + ")", x.why(key), NONE);
        }
        for (int sheet = 0; sheet < 4; sheet++) {
            d.due("pour(" + sheet + ")", x.pour(sheet), NOTHING);
        }
    }

    private static void floodOfTheLatestWeek() {
        LogLetters x = fresh("FLOOD is that of the latest week");
        for (int flood = 0; flood <= 9; flood++) {
            x.rule(2, 9 - flood);
            x.seed(Lots.seed(new int[] {10}, flood));
            x.weeks(1);
            d.due("FLOOD", x.count(2), flood);
        }
    }

    private static LogLetters atWeek(String about, int week) {
        LogLetters x = fresh(about);
        for (int w = 0; w < week; w += 60) {
            x.weeks(Math.min(60, week - w));
        }
        d.due("THE WEEK", x.count(1), week);
        return x;
    }

    private static void weekAtMost() {
        int[][] cases = {{9938, 60, 9998}, {9939, 60, 9999}, {9940, 60, 9999}, {9997, 1, 9998}, {9998, 1, 9999}, {9998, 2, 9999},
            {9999, 1, 9999}, {9999, 60, 9999}};
        for (int[] c : cases) {
            LogLetters x = atWeek("THE WEEK is 9999 at most", c[0]);
            x.seed(77);
            d.due("weeks(" + c[1] + ")", x.weeks(c[1]), 0);
            d.due("THE WEEK", x.count(1), c[2]);
            d.due("z: as many draws as WEEKS", x.count(9), Lots.behind(77, c[2] - c[0]));
        }
        LogLetters x = atWeek("no WEEK behind 9999", 9999);
        x.rule(2, 5);
        int log = x.log(SPLIT, 0, 1);
        d.due("weeks(60)", x.weeks(60), 0);
        d.due("REACH", x.told(log, 3), 0);
        d.due("FLOOD", x.count(2), 5);
    }

    // ---- kinds

    private static void kindsUnderOneAnother() {
        int[][] of = {{LOG}, {HEAVY, LOG}, {SPLIT, LOG}, {KNOTTED, HEAVY, LOG}, {BRANDED, SPLIT, LOG}, {SUNK, LOG}};
        for (int kind = 0; kind < 6; kind++) {
            LogLetters x = fresh("KINDS under one another");
            x.log(kind, 0, 9);
            x.lay(0, 1, 0);
            int worth = x.told(0, 7);
            for (int as = 0; as < 6; as++) {
                boolean is = false;
                for (int above : of[kind]) {
                    is |= above == as;
                }
                d.due(kind + " as " + as, x.as(0, as), is ? 9 : LogLetters.KIND);
                d.due(kind + " asked as " + as, x.ask(0, as), is ? worth : LogLetters.KIND);
            }
        }
    }

    private static void drifts(LogLetters x, String by, int... dues) {
        for (int kind = 0; kind < 6; kind++) {
            x.turns(0, kind);
            d.due("DRIFTS of " + kind + " by " + by, x.told(0, 5), dues[kind]);
        }
    }

    private static void driftHeldWithin() {
        LogLetters x = fresh("what drift gives is held within 0 .. 12");
        x.log(LOG, 0, 1);
        x.rule(2, 9);
        String[] gives = {"0-9999", "0-2", "0-1", "0", "1", "2", "11", "12", "13", "14", "9999"};
        int[][] dues = {{0, 0, 1, 0, 1, 0}, {0, 0, 1, 0, 1, 0}, {0, 0, 1, 0, 1, 0}, {0, 0, 1, 0, 1, 0}, {1, 0, 2, 0, 2, 0}, {2, 1, 3, 1, 3, 0},
            {11, 5, 12, 5, 3, 0}, {12, 6, 13, 6, 3, 0}, {12, 6, 13, 6, 3, 0}, {12, 6, 13, 6, 3, 0}, {12, 6, 13, 6, 3, 0}};
        for (int i = 0; i < gives.length; i++) {
            Due.text(x, "drift " + gives[i]);
            drifts(x, gives[i], dues[i]);
        }
    }

    private static void driftHeldWithinWrapped() {
        LogLetters x = fresh("the least and the greatest int are held within 0 .. 12");
        x.log(LOG, 0, 1);
        x.rule(2, 9);
        Due.text(x, "drift 8192*8192*32");
        drifts(x, "the least int", 0, 0, 1, 0, 1, 0);
        Due.text(x, "drift 8192*8192*32-1");
        drifts(x, "the greatest int", 12, 6, 13, 6, 3, 0);
    }

    private static void driftWithoutText() {
        for (int flood = 0; flood <= 9; flood++) {
            for (int kind = 0; kind < 6; kind++) {
                LogLetters x = fresh("without a TEXT: FLOOD less MASS / 10, 0 at least");
                x.rule(2, flood);
                x.log(kind, 0, 1);
                for (int mass = 1; mass <= 50; mass++) {
                    x.set(0, 2, mass);
                    int tens = mass < 10 ? 0 : mass < 20 ? 1 : mass < 30 ? 2 : mass < 40 ? 3 : mass < 50 ? 4 : 5;
                    int plain = flood > tens ? flood - tens : 0;
                    int half = new int[] {0, 0, 1, 1, 2, 2, 3, 3, 4, 4}[plain];
                    int[] dues = {plain, half, plain + 1, flood < 5 ? 0 : half, plain > 2 ? 3 : plain + 1, 0};
                    d.due("kind " + kind + ", FLOOD " + flood + ", MASS " + mass, x.told(0, 5), dues[kind]);
                }
            }
        }
    }

    private static void driftWithoutTextAtTens() {
        LogLetters x = fresh("without a TEXT: MASS / 10 is cut");
        x.log(LOG, 0, 1);
        int[][] dues = {{3, 9, 3}, {3, 10, 2}, {3, 19, 2}, {3, 20, 1}, {3, 29, 1}, {3, 30, 0}, {3, 39, 0}, {3, 40, 0}, {3, 50, 0}, {0, 1, 0},
            {0, 10, 0}, {9, 1, 9}, {9, 49, 5}, {9, 50, 4}};
        for (int[] due : dues) {
            x.rule(2, due[0]);
            x.set(0, 2, due[1]);
            d.due("FLOOD " + due[0] + ", MASS " + due[1], x.told(0, 5), due[2]);
        }
    }

    private static void driftOf(LogLetters x, int kind, int[] dues) {
        x.log(kind, 0, 1);
        for (int plain = 0; plain <= 12; plain++) {
            Due.text(x, "drift " + plain);
            d.due("where LOG drifts " + plain, x.told(0, 5), dues[plain]);
        }
    }

    private static void driftOfHeavy() {
        driftOf(fresh("HEAVY drifts half (cut) of as LOG"), HEAVY, new int[] {0, 0, 1, 1, 2, 2, 3, 3, 4, 4, 5, 5, 6});
    }

    private static void driftOfKnotted() {
        for (int flood = 0; flood <= 9; flood++) {
            LogLetters x = fresh("KNOTTED drifts as HEAVY, but 0, if FLOOD " + flood + " is below 5");
            x.rule(2, flood);
            driftOf(x, KNOTTED, flood < 5 ? new int[13] : new int[] {0, 0, 1, 1, 2, 2, 3, 3, 4, 4, 5, 5, 6});
        }
    }

    private static void driftOfSplit() {
        driftOf(fresh("SPLIT drifts as LOG, and 1"), SPLIT, new int[] {1, 2, 3, 4, 5, 6, 7, 8, 9, 10, 11, 12, 13});
    }

    private static void driftOfBranded() {
        driftOf(fresh("BRANDED drifts as SPLIT, 3 at most"), BRANDED, new int[] {1, 2, 3, 3, 3, 3, 3, 3, 3, 3, 3, 3, 3});
    }

    private static void driftOfSunk() {
        driftOf(fresh("SUNK drifts 0"), SUNK, new int[13]);
    }

    private static void driftWhereItHasGone() {
        LogLetters x = fresh("DRIFTS is told of one that has COME or is out, too");
        Due.text(x, "drift r-3");
        x.log(LOG, 0, 1);
        x.log(LOG, 0, 1);
        int[][] at = {{0, 0}, {3, 0}, {4, 1}, {11, 8}, {13, 10}};
        for (int[] a : at) {
            x.lays(0, a[0]);
            d.due("REACH " + a[0], x.told(0, 5), a[1]);
        }
        x.lays(1, 11);
        x.weeks(1);
        d.due("it has COME", x.told(1, 3), 12);
        d.due("REACH 12", x.told(1, 5), 9);
    }

    private static void claimed() {
        int[][] dues = {{0, 0, 0, 10, 0, 0, 0}, {1, 1, 1, 11, 0, 0, 0}, {2, 2, 2, 12, 1, 0, 0}, {3, 3, 3, 13, 1, 0, 0}, {50, 50, 50, 60, 25, 0, 0},
            {89, 89, 89, 99, 44, 0, 0}, {90, 90, 90, 100, 45, 0, 0}, {99, 99, 99, 109, 49, 0, 0}, {100, 100, 100, 110, 50, 0, 0}};
        LogLetters x = fresh("CLAIMED");
        for (int kind = 0; kind < 6; kind++) {
            x.log(kind, 0, 50);
        }
        for (int[] due : dues) {
            x.rule(1, due[0]);
            for (int kind = 0; kind < 6; kind++) {
                d.due("of " + kind + " by SAW " + due[0], x.told(kind, 6), due[kind + 1]);
            }
        }
    }

    private static void worth() {
        int[][] dues = {{1, 1, 8, 98, 16, 93, 1}, {2, 2, 9, 97, 18, 92, 1}, {25, 25, 32, 74, 64, 69, 1}, {49, 49, 56, 50, 112, 45, 1},
            {50, 50, 57, 49, 114, 44, 1}};
        LogLetters x = fresh("WORTH");
        for (int kind = 0; kind < 6; kind++) {
            x.log(kind, 25, 1);
        }
        for (int[] due : dues) {
            for (int kind = 0; kind < 6; kind++) {
                x.set(kind, 2, due[0]);
                d.due("of " + kind + " by MASS " + due[0], x.told(kind, 7), due[kind + 1]);
            }
        }
    }
}
