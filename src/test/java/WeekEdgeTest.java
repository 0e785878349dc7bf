/** Terms, part 2: a WEEK, step by step, and the draws, at the ends. */
public final class WeekEdgeTest {
    private static final int LOG = 0, HEAVY = 1, SPLIT = 2, KNOTTED = 3, BRANDED = 4, SUNK = 5;
    private static final int MIN = Integer.MIN_VALUE, MAX = Integer.MAX_VALUE;
    private static final Due d = new Due();

    public static void main(String[] args) {
        floodLessDry();
        drawOfAllInts();
        drawIsNotBelowZero();
        fromTheLastReachUp();
        inEachReachByNumbers();
        asManyAsItDrifts();
        comesAndGoesNoFurther();
        allComeInOneWeek();
        fewerThanRoom();
        moreThanRoom();
        stopsAheadOfAFullReach();
        outOfAFullReach();
        roomThatComesFreeByThen();
        roomThatIsTakenByThen();
        notLookedAtAgain();
        notOutOfABoom();
        intoABoomAndNoFurther();
        driftByWhereItIs();
        driftByTheFloodOfThatWeek();
        goneAreNotCarried();
        noSawNoDraw();
        noLogsNoDraw();
        goneAreNotSawn();
        sawnIfBelow();
        sawnByHowManyThereAre();
        sawnBehindTheDrift();
        sawnAgain();
        weekIsOneMore();
        drawnLogs();
        drawnWhateverTheRoom();
        noDrawsForOthers();
        d.end();
    }

    private static LogLetters fresh(String about) {
        d.about("terms 2: " + about);
        return new LogLetters();
    }

    private static LogLetters steady(String about, int drift) {
        LogLetters x = fresh(about);
        d.due("text", Due.text(x, "drift " + drift), 0);
        return x;
    }

    private static int logAt(LogLetters x, int kind, int reach) {
        int log = x.log(kind, 0, 1);
        x.lays(log, reach);
        return log;
    }

    private static void reachesThen(LogLetters x, int... dues) {
        for (int i = 0; i < dues.length; i++) {
            d.due("REACH of " + i, x.told(i, 3), dues[i]);
        }
    }

    // ---- (1) the flood

    private static void floodLessDry() {
        for (int dry = 0; dry <= 9; dry++) {
            LogLetters x = fresh("FLOOD is the rest by 10, less DRY (0 at least)");
            x.rule(0, dry);
            for (int rest = 0; rest <= 9; rest++) {
                x.seed(Lots.seed(new int[] {10}, rest));
                x.weeks(1);
                d.due("rest " + rest + ", DRY " + dry, x.count(2), rest > dry ? rest - dry : 0);
            }
        }
    }

    private static void drawOfAllInts() {
        for (int v : new int[] {0, 1, -1, MAX, MIN, MAX - 1, MIN + 1, 1 << 30, -(1 << 30), 65536, -65536}) {
            LogLetters x = fresh("z becomes z * 1103515245 + 12345 (an int)");
            x.seed(v);
            x.weeks(1);
            long z = (v * 1103515245L + 12345L) & 0xffffffffL;
            d.due("z from " + v, x.count(9) & 0xffffffffL, z);
            d.due("FLOOD from " + v, x.count(2), z / 256 % 10);
        }
    }

    private static void drawIsNotBelowZero() {
        LogLetters x = fresh("a draw gives z >>> 8, also where z is below 0");
        int below = 0;
        for (int v = 0; v < 40; v++) {
            x.seed(v);
            x.weeks(1);
            below += x.count(9) < 0 ? 1 : 0;
            d.due("FLOOD from " + v, x.count(2), Lots.given(Due.nextZ(v)) % 10);
        }
        d.due("some z are below 0", below > 5 ? 1 : 0, 1);
    }

    // ---- (2) the drift

    private static void fromTheLastReachUp() {
        LogLetters x = steady("by REACHES from the last one up to the first", 12);
        for (int i = 0; i < 12; i++) {
            logAt(x, LOG, i);
        }
        d.due("weeks(1)", x.weeks(1), 12);
        for (int i = 0; i < 12; i++) {
            d.due("CAME of the one from " + i, x.told(i, 4), 12 - i);
        }
    }

    private static void inEachReachByNumbers() {
        for (int reach : new int[] {0, 5, 11}) {
            LogLetters x = steady("in each reach by numbers", 12);
            for (int i = 0; i < 12; i++) {
                logAt(x, LOG, reach);
            }
            x.weeks(1);
            for (int i = 0; i < 12; i++) {
                d.due("CAME of " + i, x.told(i, 4), i + 1);
            }
        }
    }

    private static void asManyAsItDrifts() {
        for (int drift = 0; drift <= 12; drift++) {
            LogLetters x = steady("as many reaches as it DRIFTS", drift);
            logAt(x, LOG, 0);
            x.weeks(1);
            reachesThen(x, drift);
        }
    }

    private static void comesAndGoesNoFurther() {
        for (int from = 0; from <= 11; from++) {
            LogLetters x = steady("behind reach 11 it has COME, and goes no further", 12);
            logAt(x, SPLIT, from);
            d.due("weeks(1)", x.weeks(1), 1);
            reachesThen(x, 12);
            d.due("weeks(1)", x.weeks(1), 0);
            reachesThen(x, 12);
        }
        LogLetters x = steady("behind reach 11, not in it", 1);
        logAt(x, LOG, 10);
        d.due("into reach 11", x.weeks(1), 0);
        reachesThen(x, 11);
        d.due("CAME", x.told(0, 4), 0);
        d.due("behind it", x.weeks(1), 1);
        reachesThen(x, 12);
    }

    private static void allComeInOneWeek() {
        LogLetters x = steady("behind reach 11 there is no ROOM that could be full", 1);
        for (int i = 0; i < 12; i++) {
            logAt(x, LOG, 11);
        }
        x.reach(11, 0, 1);
        d.due("weeks(1)", x.weeks(1), 12);
    }

    private static void fewerThanRoom() {
        for (int room = 1; room <= 12; room++) {
            for (int held = room - 1; held <= Math.min(room, 11); held++) {
                LogLetters x = steady("into a reach that holds fewer LOGS than its ROOM", 1);
                x.reach(7, 0, room);
                for (int i = 0; i < held; i++) {
                    logAt(x, SUNK, 7);
                }
                int log = logAt(x, LOG, 6);
                x.weeks(1);
                d.due("ROOM " + room + ", holds " + held, x.told(log, 3), held < room ? 7 : 6);
            }
        }
    }

    private static void moreThanRoom() {
        LogLetters x = steady("not into a reach that holds more than its ROOM", 1);
        x.reach(7, 0, 2);
        for (int i = 0; i < 5; i++) {
            logAt(x, SUNK, 7);
        }
        int log = logAt(x, LOG, 6);
        x.weeks(3);
        d.due("REACH", x.told(log, 3), 6);
    }

    private static void stopsAheadOfAFullReach() {
        for (int full = 1; full <= 11; full++) {
            LogLetters x = steady("as long as the next one holds fewer", 12);
            x.reach(full, 0, 1);
            logAt(x, SUNK, full);
            int log = logAt(x, LOG, 0);
            x.weeks(1);
            d.due("REACH", x.told(log, 3), full - 1);
            d.due("the full one", x.told(0, 3), full);
        }
    }

    private static void outOfAFullReach() {
        LogLetters x = steady("out of a reach that is full, whatever its own ROOM", 1);
        x.reach(3, 0, 1);
        for (int i = 0; i < 4; i++) {
            logAt(x, LOG, 3);
        }
        x.weeks(1);
        reachesThen(x, 4, 4, 4, 4);
    }

    private static void roomThatComesFreeByThen() {
        LogLetters x = steady("by who is where by then: a place that has come free", 1);
        for (int r = 0; r < 12; r++) {
            x.reach(r, 0, 1);
            logAt(x, LOG, r);
        }
        d.due("weeks(1)", x.weeks(1), 1);
        reachesThen(x, 1, 2, 3, 4, 5, 6, 7, 8, 9, 10, 11, 12);
    }

    private static void roomThatIsTakenByThen() {
        LogLetters x = steady("by who is where by then: a place that is taken", 1);
        x.reach(6, 0, 2);
        for (int i = 0; i < 4; i++) {
            logAt(x, LOG, 5);
        }
        x.weeks(1);
        reachesThen(x, 6, 6, 5, 5);
        x = steady("by who is where by then: one goes past another that stands", 3);
        x.reach(8, 0, 1);
        logAt(x, LOG, 5);
        logAt(x, SUNK, 6);
        logAt(x, LOG, 5);
        x.weeks(1);
        reachesThen(x, 8, 6, 7);
    }

    private static void notLookedAtAgain() {
        for (boolean up : new boolean[] {true, false}) {
            LogLetters x = steady("one that has gone down is not looked at again in this WEEK", 1);
            for (int i = 0; i < 12; i++) {
                logAt(x, LOG, up ? i : 11 - i);
            }
            d.due("weeks(1)", x.weeks(1), 1);
            for (int i = 0; i < 12; i++) {
                d.due("REACH of " + i, x.told(i, 3), (up ? i : 11 - i) + 1);
            }
        }
    }

    private static void notOutOfABoom() {
        for (int boom = 0; boom <= 11; boom++) {
            LogLetters x = steady("not out of a reach with a BOOM", 12);
            x.reach(boom, 1, 1);
            logAt(x, LOG, boom);
            logAt(x, SPLIT, boom);
            d.due("weeks(60)", x.weeks(60), 0);
            reachesThen(x, boom, boom);
            x.reach(boom, 1, 0);
            d.due("weeks(1)", x.weeks(1), 2);
        }
    }

    private static void intoABoomAndNoFurther() {
        for (int boom = 1; boom <= 11; boom++) {
            LogLetters x = steady("into a reach with a BOOM, and no further", 12);
            x.reach(boom, 1, 1);
            logAt(x, LOG, boom - 1);
            logAt(x, LOG, 0);
            if (boom < 11) {
                logAt(x, LOG, boom + 1);
            }
            d.due("weeks(60): only what is below it", x.weeks(60), boom < 11 ? 1 : 0);
            reachesThen(x, boom, boom);
        }
    }

    private static void driftByWhereItIs() {
        LogLetters x = fresh("it DRIFTS by the reach in which it was");
        Due.text(x, "drift (r=0)*2+(r=2)*5+(r=7)*9");
        logAt(x, LOG, 0);
        x.weeks(1);
        reachesThen(x, 2);
        x.weeks(1);
        reachesThen(x, 7);
        d.due("weeks(1)", x.weeks(1), 1);
    }

    private static void driftByTheFloodOfThatWeek() {
        for (int flood = 0; flood <= 9; flood++) {
            LogLetters x = fresh("it DRIFTS by the FLOOD of that WEEK");
            x.rule(2, 9 - flood);
            x.seed(Lots.seed(new int[] {10}, flood));
            logAt(x, LOG, 0);
            logAt(x, KNOTTED, 0);
            x.weeks(1);
            reachesThen(x, flood, flood < 5 ? 0 : flood / 2);
        }
    }

    private static void goneAreNotCarried() {
        LogLetters x = steady("only LOGS that are on THE RIVER", 12);
        logAt(x, LOG, 13);
        logAt(x, SPLIT, 13);
        d.due("weeks(60)", x.weeks(60), 0);
        reachesThen(x, 13, 13);
        x.lays(0, 11);
        d.due("weeks(1)", x.weeks(1), 1);
        d.due("weeks(60)", x.weeks(60), 0);
        reachesThen(x, 12, 13);
        d.due("CAME", x.told(0, 4), 1);
    }

    // ---- (3) the saw

    private static void noSawNoDraw() {
        for (int saw = 0; saw <= 2; saw++) {
            LogLetters x = steady("if SAW is above 0: a draw", 0);
            x.rule(1, saw);
            logAt(x, SUNK, 0);
            x.seed(5);
            x.weeks(1);
            d.due("z by SAW " + saw, x.count(9), Lots.behind(5, saw == 0 ? 1 : 3));
        }
    }

    private static void noLogsNoDraw() {
        LogLetters x = fresh("if there are LOGS: a draw");
        x.rule(1, 100);
        x.seed(5);
        x.weeks(60);
        d.due("z", x.count(9), Lots.behind(5, 60));
        d.due("SAWN", x.river(2), 0);
    }

    private static void goneAreNotSawn() {
        LogLetters x = steady("if it is on THE RIVER: one more draw", 12);
        x.rule(1, 100);
        logAt(x, LOG, 13);
        x.seed(5);
        x.weeks(1);
        d.due("z, it is out", x.count(9), Lots.behind(5, 2));
        x.lays(0, 0);
        d.due("it comes, and is not sawn", x.weeks(1), 1);
        d.due("z, it has COME", x.count(9), Lots.behind(5, 4));
        d.due("SAWN", x.river(2), 0);
        reachesThen(x, 12);
    }

    private static void sawnIfBelow() {
        int[][] cases = {{LOG, 1, 1}, {LOG, 50, 50}, {LOG, 99, 99}, {HEAVY, 1, 1}, {HEAVY, 99, 99}, {SPLIT, 1, 11}, {SPLIT, 50, 60}, {SPLIT, 89, 99},
            {KNOTTED, 1, 0}, {KNOTTED, 2, 1}, {KNOTTED, 3, 1}, {KNOTTED, 99, 49}, {KNOTTED, 100, 50}, {BRANDED, 100, 0}, {SUNK, 100, 0}};
        for (int[] c : cases) {
            if (c[2] > 0) {
                saws("below what it is CLAIMED", c[0], c[1], c[2] - 1, true);
            }
            saws("as much as it is CLAIMED", c[0], c[1], c[2], false);
            saws("the greatest rest", c[0], c[1], 99, false);
        }
        for (int kind : new int[] {LOG, HEAVY, SPLIT}) {
            saws("all rests are below 100", kind, 100, 99, true);
            saws("all rests are below 100", kind, 100, 0, true);
        }
        saws("all rests are below 100", SPLIT, 90, 99, true);
    }

    private static void saws(String about, int kind, int saw, int rest, boolean out) {
        LogLetters x = fresh("out, if its rest by 100 is below what it is CLAIMED: " + about);
        x.rule(1, saw);
        x.reach(4, 1, 1);
        logAt(x, kind, 4);
        x.seed(Lots.seed(new int[] {1, 1, 100}, 0, 0, rest));
        x.weeks(1);
        d.due("kind " + kind + ", SAW " + saw + ", rest " + rest, x.told(0, 3), out ? 13 : 4);
        d.due("SAWN", x.river(2), out ? 1 : 0);
        d.due("CAME", x.told(0, 4), 0);
    }

    private static void sawnByHowManyThereAre() {
        for (int many = 1; many <= 12; many++) {
            for (int rest : new int[] {0, many - 1}) {
                LogLetters x = steady("the LOG that is its rest by how many there are", 0);
                x.rule(1, 100);
                for (int i = 0; i < many; i++) {
                    logAt(x, LOG, i);
                }
                x.seed(Lots.seed(new int[] {1, many}, 0, rest));
                x.weeks(1);
                for (int i = 0; i < many; i++) {
                    d.due("REACH of " + i + " of " + many, x.told(i, 3), i == rest ? 13 : i);
                }
            }
        }
        LogLetters x = steady("those that are out are LOGS, too", 0);
        x.rule(1, 100);
        logAt(x, LOG, 13);
        logAt(x, LOG, 13);
        logAt(x, LOG, 3);
        x.seed(Lots.seed(new int[] {1, 3}, 0, 1));
        x.weeks(1);
        reachesThen(x, 13, 13, 3);
        x.seed(Lots.seed(new int[] {1, 3}, 0, 2));
        x.weeks(1);
        reachesThen(x, 13, 13, 13);
        d.due("SAWN", x.river(2), 1);
    }

    private static void sawnBehindTheDrift() {
        LogLetters x = steady("the saw comes behind the drift", 1);
        x.rule(1, 100);
        x.reach(6, 0, 1);
        logAt(x, LOG, 6);
        logAt(x, LOG, 5);
        x.reach(6, 1, 1);
        x.seed(Lots.seed(new int[] {1, 2}, 0, 0));
        x.weeks(1);
        reachesThen(x, 13, 5);
        x.seed(Lots.seed(new int[] {1, 2}, 0, 0));
        x.weeks(1);
        reachesThen(x, 13, 6);
    }

    private static void sawnAgain() {
        LogLetters x = steady("SAWN is 1 more each time", 0);
        x.rule(1, 100);
        logAt(x, LOG, 0);
        for (int sawn = 1; sawn <= 30; sawn++) {
            x.weeks(1);
            d.due("SAWN", x.river(2), sawn);
            d.due("laid again", x.lays(0, 0), 13);
        }
        x.lays(0, 13);
        d.due("laid out by hand", x.river(2), 30);
    }

    private static void weekIsOneMore() {
        LogLetters x = fresh("THE WEEK is 1 more");
        for (int week = 1; week <= 60; week++) {
            x.weeks(1);
            d.due("THE WEEK", x.count(1), week);
        }
        x.weeks(60);
        d.due("THE WEEK", x.count(1), 120);
    }

    // ---- logs that are drawn

    private static void drawnLogs() {
        int[] by = {6, 26, 50};
        int[][] rests = {{0, 0, 0}, {5, 25, 49}, {0, 25, 0}, {5, 0, 49}, {3, 13, 24}};
        for (int[] r : rests) {
            LogLetters x = fresh("KIND the rest by 6, LETTER by 26, MASS 1 and that by 50");
            int seed = Lots.seed(by, r);
            x.seed(seed);
            d.due("deal(1)", x.deal(1), 1);
            d.due("KIND", x.told(0, 0), r[0]);
            d.due("LETTER", x.told(0, 1), r[1]);
            d.due("MASS", x.told(0, 2), r[2] + 1);
            d.due("REACH", x.told(0, 3), 0);
            d.due("CAME", x.told(0, 4), 0);
            d.due("z", x.count(9), Lots.behind(seed, 3));
        }
    }

    private static void drawnWhateverTheRoom() {
        LogLetters x = fresh("at reach 0, whatever its ROOM");
        x.reach(0, 0, 1);
        x.reach(0, 1, 1);
        d.due("deal(12)", x.deal(12), 12);
        reachesThen(x, new int[12]);
        d.due("JAM", x.river(1), 12);
    }

    private static void noDrawsForOthers() {
        for (int there = 0; there <= 12; there++) {
            LogLetters x = fresh("as many as there is room for (no draws for others)");
            for (int i = 0; i < there; i++) {
                x.log(0, 0, 1);
            }
            x.seed(-9);
            d.due("deal(12)", x.deal(12), 12 - there);
            d.due("z", x.count(9), Lots.behind(-9, 3 * (12 - there)));
        }
    }
}
