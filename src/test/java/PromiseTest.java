/** For each promise of the document: ordinary inputs, the edges that it names, wrong inputs. */
public final class PromiseTest {
    private static final int BAD = -1000000001, NO = -1000000002, FULL = -1000000003, NONE = -1000000005,
        NOTHING = -1000000011, KIND = -1000000012, INDEX = -1000000013, SIZE = -1000000014;
    private static final int MIN = Integer.MIN_VALUE, MAX = Integer.MAX_VALUE;
    private static final Due d = new Due();

    public static void main(String[] args) {
        newObject();
        log();
        told();
        as();
        turns();
        set();
        lays();
        reach();
        rule();
        word();
        unword();
        deal();
        seed();
        weeks();
        weeksByRoomAndBoom();
        weeksBySaw();
        weeksToTheLast();
        read();
        river();
        behind();
        whole();
        frees();
        lost();
        wider();
        opened();
        rolled();
        looked();
        fee();
        fine();
        feed();
        trim();
        text();
        textFaults();
        textDepths();
        textsBehindFaults();
        textsGive();
        textTold();
        why();
        sheet();
        mark();
        pour();
        reads();
        copy();
        lay();
        ask();
        item();
        rest();
        tell();
        check();
        keepAndBack();
        count();
        allFull();
        d.end();
    }

    private static LogLetters fresh(String about) {
        d.about(about);
        return new LogLetters();
    }

    /** A river on which a plain log drifts so many reaches in each week, whatever the flood. */
    private static LogLetters steady(String about, int drift) {
        LogLetters x = fresh(about);
        d.due("text", Due.text(x, "drift " + drift), 0);
        return x;
    }

    private static void newObject() {
        LogLetters x = fresh("promise 1");
        int[] counts = {0, 0, 3, 0, 0, 0, 0, 0, 0, 1};
        for (int i = 0; i < counts.length; i++) {
            d.due("count(" + i + ")", x.count(i), counts[i]);
        }
        for (int i = 0; i < 5; i++) {
            d.due("river(" + i + ")", x.river(i), 0);
            d.due("ask(" + i + ", 0)", x.ask(i, 0), NOTHING);
        }
        for (int r = 0; r < 12; r++) {
            d.due("room of " + r, x.reach(r, 0, 4), 4);
            d.due("boom of " + r, x.reach(r, 1, 0), 0);
        }
        for (int s = 0; s < 4; s++) {
            d.due("mark(" + s + ", 0, 0)", x.mark(s, 0, 0), NOTHING);
        }
        for (int k = 0; k < 3; k++) {
            d.due("why(" + k + ")", x.why(k), NONE);
        }
        d.due("read(-1)", x.read(-1), 0);
        d.due("told(0, 0)", x.told(0, 0), BAD);
        d.due("back()", x.back(), NO);
        d.due("fee()", x.fee(), 0);
        LogLetters y = new LogLetters();
        x.log(0, 0, 1);
        d.due("count(0) of another object", y.count(0), 0);
    }

    private static void log() {
        LogLetters x = fresh("promise 2");
        int[][] bad = {{-1, 0, 1}, {6, 0, 1}, {0, -1, 1}, {0, 26, 1}, {0, 0, 0}, {0, 0, 51}, {MIN, 0, 1}, {0, MAX, 1}, {0, 0, MIN}};
        for (int[] b : bad) {
            d.due("log of wrong inputs", x.log(b[0], b[1], b[2]), BAD);
        }
        d.due("count(0)", x.count(0), 0);
        d.due("log(5, 25, 50)", x.log(5, 25, 50), 0);
        d.due("log(0, 0, 1)", x.log(0, 0, 1), 1);
        int[] told = {5, 25, 50, 0, 0};
        for (int what = 0; what < told.length; what++) {
            d.due("told(0, " + what + ")", x.told(0, what), told[what]);
        }
        for (int i = 2; i < 12; i++) {
            d.due("log(1, 2, 3)", x.log(1, 2, 3), i);
        }
        d.due("log(1, 2, 3)", x.log(1, 2, 3), FULL);
        d.due("log(6, 2, 3)", x.log(6, 2, 3), BAD);
        d.due("count(0)", x.count(0), 12);
    }

    private static void told() {
        LogLetters x = fresh("promise 3");
        for (int kind = 0; kind < 6; kind++) {
            x.log(kind, kind + 1, 21);
        }
        x.rule(1, 31);
        int[][] drifts = {{0, 0, 0, 0, 0}, {2, 1, 0, 1, 3}, {3, 1, 1, 2, 4}, {7, 3, 3, 3, 8}};
        int[] floods = {2, 4, 5, 9};
        for (int i = 0; i < floods.length; i++) {
            int plain = Math.max(0, floods[i] - 2);
            x.rule(2, floods[i]);
            d.due("LOG drifts", x.told(0, 5), plain);
            d.due("HEAVY drifts", x.told(1, 5), plain / 2);
            d.due("SPLIT drifts", x.told(2, 5), plain + 1);
            d.due("KNOTTED drifts", x.told(3, 5), floods[i] < 5 ? 0 : plain / 2);
            d.due("BRANDED drifts", x.told(4, 5), Math.min(3, plain + 1));
            d.due("SUNK drifts", x.told(5, 5), 0);
            d.due("as told by hand", x.told(0, 5), drifts[i][0]);
            d.due("as told by hand", x.told(2, 5), drifts[i][0] + 1);
        }
        x.rule(2, 1);
        d.due("not below 0", x.told(0, 5), 0);
        int[] claimed = {31, 31, 41, 15, 0, 0};
        int[] worth = {21, 28, 78, 56, 73, 1};
        for (int kind = 0; kind < 6; kind++) {
            d.due("kind", x.told(kind, 0), kind);
            d.due("letter", x.told(kind, 1), kind + 1);
            d.due("mass", x.told(kind, 2), 21);
            d.due("reach", x.told(kind, 3), 0);
            d.due("came", x.told(kind, 4), 0);
            d.due("claimed of " + kind, x.told(kind, 6), claimed[kind]);
            d.due("worth of " + kind, x.told(kind, 7), worth[kind]);
        }
        x.rule(1, 100);
        d.due("claimed of SPLIT", x.told(2, 6), 110);
        toldByLaw(x);
        int[][] bad = {{-1, 0}, {6, 0}, {0, -1}, {0, 8}, {MIN, 0}, {0, MAX}};
        for (int[] b : bad) {
            d.due("told of wrong inputs", x.told(b[0], b[1]), BAD);
        }
    }

    private static void toldByLaw(LogLetters x) {
        Due.text(x, "drift 100");
        x.rule(2, 4);
        int[] high = {12, 6, 13, 0, 3, 0};
        for (int kind = 0; kind < 6; kind++) {
            d.due("drift 100 of " + kind, x.told(kind, 5), high[kind]);
        }
        x.rule(2, 5);
        d.due("drift 100 of KNOTTED", x.told(3, 5), 6);
        Due.text(x, "drift 0-100");
        int[] low = {0, 0, 1, 0, 1, 0};
        for (int kind = 0; kind < 6; kind++) {
            d.due("drift 0-100 of " + kind, x.told(kind, 5), low[kind]);
        }
        Due.text(x, "drift (f=5)+(m=21)*2+(r=13)*8");
        d.due("drift by names", x.told(0, 5), 3);
        x.lays(0, 13);
        d.due("drift by names, out", x.told(0, 5), 11);
        x.rule(2, 6);
        d.due("drift by names, flood 6", x.told(0, 5), 10);
    }

    private static void as() {
        LogLetters x = fresh("promise 4");
        boolean[][] under = {
            {true, false, false, false, false, false},
            {true, true, false, false, false, false},
            {true, false, true, false, false, false},
            {true, true, false, true, false, false},
            {true, false, true, false, true, false},
            {true, false, false, false, false, true}};
        for (int kind = 0; kind < 6; kind++) {
            x.log(kind, 0, kind + 30);
        }
        for (int i = 0; i < 6; i++) {
            for (int kind = 0; kind < 6; kind++) {
                d.due("as(" + i + ", " + kind + ")", x.as(i, kind), under[i][kind] ? i + 30 : KIND);
            }
        }
        int[][] bad = {{-1, 0}, {6, 0}, {0, -1}, {0, 6}, {MAX, 0}, {0, MIN}};
        for (int[] b : bad) {
            d.due("as of wrong inputs", x.as(b[0], b[1]), BAD);
        }
    }

    private static void turns() {
        LogLetters x = fresh("promise 5");
        x.log(4, 3, 20);
        d.due("turns(0, 5)", x.turns(0, 5), 4);
        d.due("turns(0, 1)", x.turns(0, 1), 5);
        d.due("told(0, 0)", x.told(0, 0), 1);
        d.due("worth", x.told(0, 7), 27);
        d.due("turns(0, 6)", x.turns(0, 6), BAD);
        d.due("turns(0, -1)", x.turns(0, -1), BAD);
        d.due("turns(1, 0)", x.turns(1, 0), BAD);
        d.due("turns(-1, 0)", x.turns(-1, 0), BAD);
        d.due("told(0, 0)", x.told(0, 0), 1);
    }

    private static void set() {
        LogLetters x = fresh("promise 6");
        x.log(0, 3, 20);
        d.due("set(0, 1, 25)", x.set(0, 1, 25), 3);
        d.due("set(0, 1, 0)", x.set(0, 1, 0), 25);
        d.due("set(0, 2, 50)", x.set(0, 2, 50), 20);
        d.due("set(0, 2, 1)", x.set(0, 2, 1), 50);
        d.due("told(0, 1)", x.told(0, 1), 0);
        d.due("told(0, 2)", x.told(0, 2), 1);
        int[][] bad = {{0, 1, -1}, {0, 1, 26}, {0, 2, 0}, {0, 2, 51}, {0, 0, 1}, {0, 3, 1}, {1, 1, 1}, {-1, 1, 1}, {0, MIN, 1}};
        for (int[] b : bad) {
            d.due("set of wrong inputs", x.set(b[0], b[1], b[2]), BAD);
        }
        d.due("told(0, 0)", x.told(0, 0), 0);
        d.due("told(0, 1)", x.told(0, 1), 0);
        d.due("told(0, 2)", x.told(0, 2), 1);
        d.due("told(0, 3)", x.told(0, 3), 0);
    }

    private static void lays() {
        LogLetters x = steady("promise 7", 1);
        x.reach(5, 0, 1);
        for (int i = 0; i < 4; i++) {
            x.log(0, i, 1);
        }
        d.due("lays(0, 5)", x.lays(0, 5), 0);
        d.due("lays(1, 5), full", x.lays(1, 5), 0);
        d.due("lays(0, 13)", x.lays(0, 13), 5);
        d.due("lays(0, 13) again", x.lays(0, 13), 13);
        d.due("sawn", x.river(2), 0);
        d.due("lays(0, 11)", x.lays(0, 11), 13);
        int[][] bad = {{0, 12}, {0, 14}, {0, -1}, {4, 0}, {-1, 0}, {0, MAX}};
        for (int[] b : bad) {
            d.due("lays of wrong inputs", x.lays(b[0], b[1]), BAD);
        }
        d.due("weeks(1)", x.weeks(1), 1);
        d.due("lays(0, 3), it has come", x.lays(0, 3), NO);
        d.due("lays(0, 13), it has come", x.lays(0, 13), NO);
        d.due("lays(0, 12), it has come", x.lays(0, 12), BAD);
        d.due("told(0, 3)", x.told(0, 3), 12);
    }

    private static void reach() {
        LogLetters x = fresh("promise 8");
        d.due("reach(0, 0, 12)", x.reach(0, 0, 12), 4);
        d.due("reach(0, 0, 1)", x.reach(0, 0, 1), 12);
        d.due("reach(11, 1, 1)", x.reach(11, 1, 1), 0);
        d.due("reach(11, 1, 0)", x.reach(11, 1, 0), 1);
        int[][] bad = {{-1, 0, 1}, {12, 0, 1}, {0, 0, 0}, {0, 0, 13}, {0, 1, 2}, {0, 1, -1}, {0, 2, 1}, {0, -1, 1}, {MIN, 0, 1}};
        for (int[] b : bad) {
            d.due("reach of wrong inputs", x.reach(b[0], b[1], b[2]), BAD);
        }
        d.due("reach(0, 0, 4)", x.reach(0, 0, 4), 1);
        d.due("reach(1, 0, 4)", x.reach(1, 0, 4), 4);
    }

    private static void rule() {
        LogLetters x = fresh("promise 9");
        d.due("rule(0, 9)", x.rule(0, 9), 0);
        d.due("rule(0, 0)", x.rule(0, 0), 9);
        d.due("rule(1, 100)", x.rule(1, 100), 0);
        d.due("rule(1, 0)", x.rule(1, 0), 100);
        d.due("rule(1, 7)", x.rule(1, 7), 0);
        d.due("rule(2, 9)", x.rule(2, 9), 3);
        d.due("rule(2, 0)", x.rule(2, 0), 9);
        int[][] bad = {{0, -1}, {0, 10}, {1, -1}, {1, 101}, {2, -1}, {2, 10}, {-1, 0}, {3, 0}, {MAX, 0}, {0, MIN}};
        for (int[] b : bad) {
            d.due("rule of wrong inputs", x.rule(b[0], b[1]), BAD);
        }
        d.due("count(2)", x.count(2), 0);
        d.due("count(3)", x.count(3), 0);
        d.due("count(4)", x.count(4), 7);
    }

    private static void word() {
        LogLetters x = fresh("promise 10");
        d.due("word(-1)", x.word(-1), BAD);
        for (int i = 1; i <= 12; i++) {
            d.due("word(25)", x.word(25), i);
        }
        d.due("word(0), full", x.word(0), FULL);
        d.due("word(26), full", x.word(26), BAD);
        d.due("count(5)", x.count(5), 12);
    }

    private static void unword() {
        LogLetters x = fresh("promise 11");
        d.due("unword()", x.unword(), 0);
        x.word(1);
        x.word(2);
        d.due("unword()", x.unword(), 2);
        d.due("count(5)", x.count(5), 0);
        d.due("word(3)", x.word(3), 1);
        d.due("unword()", x.unword(), 1);
    }

    private static void deal() {
        LogLetters x = fresh("promise 12");
        for (int n : new int[] {0, -1, 13, MIN, MAX}) {
            d.due("deal(" + n + ")", x.deal(n), BAD);
        }
        d.due("no draws", x.count(9), 1);
        x.seed(77);
        int z = 77;
        d.due("deal(9)", x.deal(9), 9);
        for (int i = 0; i < 9; i++) {
            z = Due.nextZ(z);
            d.due("kind of " + i, x.told(i, 0), (z >>> 8) % 6);
            z = Due.nextZ(z);
            d.due("letter of " + i, x.told(i, 1), (z >>> 8) % 26);
            z = Due.nextZ(z);
            d.due("mass of " + i, x.told(i, 2), 1 + (z >>> 8) % 50);
            d.due("reach of " + i, x.told(i, 3), 0);
        }
        d.due("z", x.count(9), z);
        d.due("deal(12)", x.deal(12), 3);
        for (int i = 0; i < 9; i++) {
            z = Due.nextZ(z);
        }
        d.due("z, no draws for others", x.count(9), z);
        d.due("deal(1), full", x.deal(1), 0);
        d.due("z, full", x.count(9), z);
    }

    private static void seed() {
        LogLetters x = fresh("promise 13");
        d.due("seed(MIN)", x.seed(MIN), 1);
        d.due("seed(-5)", x.seed(-5), MIN);
        d.due("count(9)", x.count(9), -5);
        x.weeks(1);
        d.due("z", x.count(9), Due.nextZ(-5));
        d.due("flood", x.count(2), (Due.nextZ(-5) >>> 8) % 10);
    }

    private static void weeks() {
        LogLetters x = steady("promise 14", 3);
        for (int n : new int[] {0, -1, 61, MIN, MAX}) {
            d.due("weeks(" + n + ")", x.weeks(n), BAD);
        }
        d.due("count(1)", x.count(1), 0);
        x.log(0, 0, 1);
        x.log(0, 1, 1);
        x.log(2, 2, 1);
        x.log(5, 3, 1);
        d.due("weeks(1)", x.weeks(1), 0);
        int[] first = {3, 3, 4, 0};
        for (int i = 0; i < 4; i++) {
            d.due("reach of " + i, x.told(i, 3), first[i]);
        }
        d.due("weeks(2)", x.weeks(2), 1);
        d.due("SPLIT has come first", x.told(2, 4), 1);
        d.due("weeks(60)", x.weeks(60), 2);
        int[] came = {2, 3, 1, 0};
        for (int i = 0; i < 4; i++) {
            d.due("came of " + i, x.told(i, 4), came[i]);
        }
        d.due("count(1)", x.count(1), 63);
        int z = 1;
        for (int i = 0; i < 63; i++) {
            z = Due.nextZ(z);
        }
        d.due("one draw a week", x.count(9), z);
        x.rule(0, 4);
        for (int i = 0; i < 30; i++) {
            z = Due.nextZ(z);
            x.weeks(1);
            d.due("flood less dry", x.count(2), Math.max(0, (z >>> 8) % 10 - 4));
        }
    }

    private static void weeksByRoomAndBoom() {
        LogLetters x = steady("promise 14: room", 12);
        x.log(0, 0, 1);
        x.log(0, 1, 1);
        x.log(5, 2, 1);
        x.lays(2, 4);
        x.reach(4, 0, 1);
        x.reach(3, 0, 1);
        d.due("weeks(1)", x.weeks(1), 0);
        d.due("the first one goes up to the full reach", x.told(0, 3), 3);
        d.due("the next one stops ahead of it", x.told(1, 3), 2);
        x.lays(2, 13);
        d.due("both come", x.weeks(1), 2);
        d.due("the one farther down comes first", x.told(0, 4), 1);
        d.due("then the other", x.told(1, 4), 2);

        x = steady("promise 14: room that comes free in the week", 2);
        x.log(0, 0, 1);
        x.log(0, 1, 1);
        x.lays(0, 5);
        x.lays(1, 6);
        x.reach(6, 0, 1);
        x.reach(7, 0, 1);
        x.weeks(1);
        d.due("goes first", x.told(1, 3), 8);
        d.due("goes into what is free by then", x.told(0, 3), 7);

        x = steady("promise 14: boom", 5);
        x.log(0, 0, 1);
        x.log(0, 1, 1);
        x.lays(1, 11);
        x.reach(3, 1, 1);
        x.reach(11, 1, 1);
        d.due("weeks(2)", x.weeks(2), 0);
        d.due("into the boom and no further", x.told(0, 3), 3);
        d.due("not out of the last reach", x.told(1, 3), 11);
        x.reach(11, 1, 0);
        d.due("weeks(1)", x.weeks(1), 1);
        d.due("none goes beyond", x.told(1, 3), 12);

        x = steady("promise 14: more than room", 1);
        for (int i = 0; i < 6; i++) {
            x.log(0, i, 1);
        }
        x.weeks(1);
        for (int i = 0; i < 6; i++) {
            d.due("reach of " + i, x.told(i, 3), i < 4 ? 1 : 0);
        }
        x.weeks(1);
        for (int i = 0; i < 6; i++) {
            d.due("reach of " + i, x.told(i, 3), i < 4 ? 2 : 1);
        }
    }

    private static void weeksBySaw() {
        LogLetters x = steady("promise 14: saw", 0);
        x.rule(1, 100);
        x.weeks(1);
        int z = Due.nextZ(1);
        d.due("no log, no draw", x.count(9), z);
        x.log(0, 0, 1);
        x.weeks(1);
        z = Due.nextZ(Due.nextZ(Due.nextZ(z)));
        d.due("three draws", x.count(9), z);
        d.due("it is out", x.told(0, 3), 13);
        d.due("sawn", x.river(2), 1);
        x.weeks(1);
        z = Due.nextZ(Due.nextZ(z));
        d.due("two draws, it is not on the river", x.count(9), z);
        d.due("sawn", x.river(2), 1);
        d.due("came", x.told(0, 4), 0);

        x = steady("promise 14: saw by lot", 0);
        x.rule(1, 40);
        for (int i = 0; i < 5; i++) {
            x.log(i == 2 ? 2 : i == 3 ? 3 : 0, 0, 1);
        }
        int[] claimed = {40, 40, 50, 20, 40};
        boolean[] out = new boolean[5];
        z = 1;
        for (int week = 0; week < 20; week++) {
            d.due("weeks(1)", x.weeks(1), 0);
            z = Due.nextZ(Due.nextZ(z));
            int which = (z >>> 8) % 5;
            if (!out[which]) {
                z = Due.nextZ(z);
                out[which] = (z >>> 8) % 100 < claimed[which];
            }
            // the split one drifts 1 all the same
            x.lays(2, out[2] ? 13 : 0);
            for (int i = 0; i < 5; i++) {
                d.due("reach of " + i, x.told(i, 3), out[i] ? 13 : 0);
            }
            d.due("z", x.count(9), z);
        }
        d.due("not all are sawn", x.river(2) > 0 && x.river(2) <= 5 ? 1 : 0, 1);

        x = steady("promise 14: claimed, by many lots", 0);
        x.rule(1, 50);
        x.log(0, 0, 1);
        for (int v = 0; v < 600; v++) {
            x.lays(0, 0);
            x.seed(v);
            x.weeks(1);
            z = Due.nextZ(Due.nextZ(Due.nextZ(v)));
            d.due("reach from " + v, x.told(0, 3), (z >>> 8) % 100 < 50 ? 13 : 0);
        }

        x = steady("promise 14: none of BRANDED and SUNK is claimed", 0);
        x.rule(1, 100);
        x.log(4, 0, 1);
        x.log(5, 0, 1);
        x.reach(0, 1, 1);
        x.weeks(60);
        d.due("sawn", x.river(2), 0);
    }

    private static void weeksToTheLast() {
        LogLetters x = fresh("promise 14: the last week");
        for (int i = 0; i < 166; i++) {
            x.weeks(60);
        }
        d.due("count(1)", x.count(1), 9960);
        x.weeks(60);
        d.due("count(1)", x.count(1), 9999);
        int z = x.count(9);
        Due.text(x, "drift 12");
        x.log(0, 5, 1);
        d.due("weeks(60)", x.weeks(60), 0);
        d.due("no draw", x.count(9), z);
        d.due("what is thought has no such bound", x.behind(1, 0), 1);
        x.word(5);
        d.due("whole()", x.whole(), 1);
        x.keep();
        d.due("check(3): no weeks are left", x.check(3), 0);
        x.tell(1);
        d.due("check(3): one too many", x.check(3), 1);
    }

    private static void read() {
        LogLetters x = steady("promise 15", 4);
        x.log(0, 7, 1);
        x.log(0, 8, 1);
        x.log(0, 9, 1);
        x.lays(2, 8);
        x.lays(1, 4);
        for (int k : new int[] {-2, 12, MIN, MAX}) {
            d.due("read(" + k + ")", x.read(k), BAD);
        }
        d.due("read(0)", x.read(0), NONE);
        x.weeks(2);
        d.due("read(-1)", x.read(-1), 2);
        d.due("read(0)", x.read(0), 9);
        d.due("read(1)", x.read(1), 8);
        d.due("read(2)", x.read(2), NONE);
        d.due("read(11)", x.read(11), NONE);
        x.weeks(1);
        d.due("read(2)", x.read(2), 7);
        x.set(2, 1, 20);
        d.due("read(0) by its letter now", x.read(0), 20);
    }

    private static void river() {
        LogLetters x = steady("promise 16", 12);
        d.due("river(-1)", x.river(-1), BAD);
        d.due("river(5)", x.river(5), BAD);
        int[] letters = {0, 0, 1, 2, 0};
        for (int letter : letters) {
            x.log(0, letter, 1);
        }
        d.due("jam of 5 in a room of 4", x.river(1), 5);
        x.reach(0, 0, 5);
        d.due("jam of 5 in a room of 5", x.river(1), 5);
        x.reach(0, 0, 6);
        d.due("jam of 5 in a room of 6", x.river(1), 0);
        x.lays(4, 13);
        x.lays(3, 7);
        x.reach(7, 0, 1);
        d.due("jam of 1 in a room of 1", x.river(1), 1);
        d.due("on the river", x.river(4), 15);
        x.reach(7, 1, 1);
        x.weeks(1);
        d.due("come, but none past the boom and the full reach", x.river(3), 0);
        x.reach(7, 1, 0);
        x.weeks(2);
        d.due("come", x.river(3), 4);
        d.due("on the river", x.river(4), 0);
        int[] word = {0, 0, 0, 1, 1, 2, 5};
        int[] spelt = {1, 2, 2, 3, 3, 4, 4};
        for (int i = 0; i < word.length; i++) {
            x.word(word[i]);
            d.due("spelt of " + (i + 1), x.river(0), spelt[i]);
        }
    }

    private static void behind() {
        LogLetters x = steady("promise 17", 3);
        d.due("behind(1, 3), no log", x.behind(1, 3), BAD);
        x.log(0, 6, 1);
        x.log(5, 7, 1);
        x.word(6);
        x.word(6);
        for (int n = 0; n <= 60; n++) {
            d.due("behind(" + n + ", 0)", x.behind(n, 0), n < 4 ? 0 : 1);
            d.due("behind(" + n + ", 2)", x.behind(n, 2), n < 4 ? 0 : 1);
            d.due("behind(" + n + ", 3)", x.behind(n, 3), Math.min(12, 3 * n));
        }
        d.due("behind(9, 4)", x.behind(9, 4), 0);
        int[][] bad = {{-1, 0}, {61, 0}, {1, -1}, {1, 5}, {1, MIN}, {1, MAX}, {MIN, 0}};
        for (int[] b : bad) {
            d.due("behind of wrong inputs", x.behind(b[0], b[1]), BAD);
        }
        d.due("nothing changes", x.count(9), 1);
        d.due("nothing changes", x.count(1), 0);
        d.due("nothing changes", x.told(0, 3), 0);
        x.rule(1, 100);
        x.turns(1, 4);
        int sawn = x.behind(10, 1);
        int reach = x.behind(10, 3);
        d.due("one of both", sawn, reach == 13 ? 1 : 0);
        x.weeks(10);
        d.due("as it was thought", x.river(2), sawn);
        d.due("as it was thought", x.told(0, 3), reach);
    }

    private static void whole() {
        LogLetters x = steady("promise 18", 1);
        d.due("whole(), no word", x.whole(), 0);
        x.log(0, 3, 1);
        x.word(3);
        d.due("whole()", x.whole(), 12);
        x.lays(0, 11);
        d.due("whole()", x.whole(), 1);
        x.weeks(1);
        d.due("whole()", x.whole(), 0);
        x.word(3);
        d.due("whole(), one of two", x.whole(), NONE);
        x = fresh("promise 18: not by then");
        Due.text(x, "drift 1");
        x.log(0, 3, 1);
        x.word(3);
        x.reach(8, 1, 1);
        d.due("whole()", x.whole(), NONE);

        x = fresh("promise 18: 200 weeks");
        Due.text(x, "drift f=0");
        x.log(0, 3, 1);
        x.word(3);
        for (int edge = 199; edge <= 201; edge++) {
            int v = 0;
            while (v < 100000 && weekOfZeros(floodsFrom(v, 400), 12) != edge) {
                v++;
            }
            x.seed(v);
            d.due("whole() from " + v, x.whole(), edge <= 200 ? edge : NONE);
        }
    }

    private static int[] floodsFrom(int z, int n) {
        int[] floods = new int[n];
        for (int i = 0; i < n; i++) {
            z = Due.nextZ(z);
            floods[i] = (z >>> 8) % 10;
        }
        return floods;
    }

    private static int weekOfZeros(int[] floods, int zeros) {
        for (int i = 0; i < floods.length; i++) {
            zeros -= floods[i] == 0 ? 1 : 0;
            if (zeros == 0) {
                return i + 1;
            }
        }
        return -1;
    }

    private static void frees() {
        LogLetters x = steady("promise 19", 12);
        d.due("frees(1, 0), no log", x.frees(1, 0), NONE);
        d.due("frees(1, 1), no log", x.frees(1, 1), NONE);
        x.log(0, 0, 1);
        x.log(0, 1, 1);
        x.log(5, 2, 1);
        d.due("none stands in the way", x.frees(1, 0), 2);
        d.due("both come", x.frees(1, 1), 2);
        x.lays(2, 5);
        x.reach(5, 0, 1);
        x.reach(4, 0, 1);
        d.due("the one in the way", x.frees(1, 0), 2);
        d.due("both come", x.frees(1, 1), 2);
        x.turns(0, 5);
        x.turns(1, 5);
        d.due("of several the least", x.frees(40, 0), 0);
        d.due("none comes", x.frees(40, 1), 0);
        x.lays(0, 13);
        d.due("not one that is out", x.frees(40, 0), 1);
        d.due("sawn", x.river(2), 0);
        x.turns(1, 0);
        x.lays(2, 13);
        x.weeks(1);
        d.due("none is on the river", x.frees(1, 0), NONE);
        int[][] bad = {{0, 0}, {41, 0}, {1, -1}, {1, 2}, {MIN, 0}, {1, MAX}};
        for (int[] b : bad) {
            d.due("frees of wrong inputs", x.frees(b[0], b[1]), BAD);
        }
    }

    private static void lost() {
        LogLetters x = steady("promise 20", 12);
        x.log(0, 0, 1);
        x.log(0, 0, 1);
        x.log(0, 1, 1);
        x.log(5, 2, 1);
        d.due("no word", x.lost(1), 15);
        x.word(0);
        d.due("one of two does", x.lost(1), 15);
        x.word(0);
        d.due("both are needed", x.lost(1), 12);
        x.word(1);
        d.due("all but the sunk one are needed", x.lost(1), 8);
        x.lays(3, 5);
        x.reach(5, 0, 1);
        d.due("none comes as it is", x.lost(40), 15);
        x.lays(0, 13);
        d.due("not one that is out", x.lost(40), 14);
        for (int n : new int[] {0, -1, 41, MIN, MAX}) {
            d.due("lost(" + n + ")", x.lost(n), BAD);
        }
        d.due("nothing changes", x.count(9), 1);
    }

    private static void wider() {
        LogLetters x = steady("promise 21", 12);
        d.due("wider(1, 0), no log", x.wider(1, 0), 0);
        x.log(0, 0, 1);
        x.log(0, 1, 1);
        x.log(0, 2, 1);
        x.log(5, 3, 1);
        x.lays(3, 7);
        x.reach(7, 0, 1);
        d.due("wider(1, 0)", x.wider(1, 0), 7);
        d.due("wider(1, 1)", x.wider(1, 1), 3);
        d.due("room is as it was", x.reach(7, 0, 1), 1);
        for (int r = 8; r < 12; r++) {
            x.reach(r, 0, 12);
        }
        x.reach(9, 1, 1);
        d.due("of several the least", x.wider(1, 0), 0);
        d.due("none comes past the boom", x.wider(1, 1), 0);

        x = steady("promise 21: two more, and no more", 1);
        for (int i = 0; i < 6; i++) {
            x.log(0, i, 1);
            x.lays(i, 10);
        }
        x.reach(11, 0, 1);
        d.due("wider(2, 0)", x.wider(2, 0), 11);
        d.due("wider(2, 1)", x.wider(2, 1), 3);
        int[][] bad = {{0, 0}, {41, 0}, {1, -1}, {1, 2}, {MIN, 0}, {1, MAX}};
        for (int[] b : bad) {
            d.due("wider of wrong inputs", x.wider(b[0], b[1]), BAD);
        }
    }

    private static void opened() {
        LogLetters x = steady("promise 22", 6);
        x.log(0, 0, 1);
        x.log(0, 1, 1);
        d.due("no boom", x.opened(9), 0);
        d.due("no boom, before any can come", x.opened(1), 0);
        x.reach(0, 1, 1);
        d.due("a boom in the first reach", x.opened(2), 2);
        x.reach(0, 1, 0);
        x.reach(3, 1, 1);
        x.reach(9, 1, 1);
        d.due("opened(1)", x.opened(1), 0);
        d.due("opened(2)", x.opened(2), 2);
        d.due("opened(60)", x.opened(60), 2);
        d.due("booms are as they were", x.reach(9, 1, 1), 1);
        x.lays(1, 11);
        d.due("only what comes more", x.opened(2), 1);
        for (int n : new int[] {0, -1, 61, MIN, MAX}) {
            d.due("opened(" + n + ")", x.opened(n), BAD);
        }
    }

    private static void rolled() {
        LogLetters x = steady("promise 23", 3);
        x.log(0, 0, 1);
        x.log(5, 0, 1);
        d.due("rolled(0, 5), on the river", x.rolled(0, 5), NO);
        x.lays(0, 13);
        d.due("rolled(0, 3)", x.rolled(0, 3), NONE);
        d.due("rolled(0, 4)", x.rolled(0, 4), 0);
        d.due("rolled(0, 10)", x.rolled(0, 10), 6);
        d.due("rolled(0, 40)", x.rolled(0, 40), 36);
        x.lays(1, 13);
        d.due("a sunk one never comes", x.rolled(1, 40), NONE);
        Due.text(x, "drift 11");
        d.due("from the first reach", x.rolled(0, 9), 7);
        Due.text(x, "drift 12");
        d.due("rolled(0, 1)", x.rolled(0, 1), 0);
        Due.text(x, "drift (m=1)*12+(m=2)");
        x.turns(1, 0);
        x.set(1, 2, 2);
        x.lays(1, 5);
        for (int r = 5; r < 12; r++) {
            x.reach(r, 0, 1);
        }
        d.due("right behind one that goes slowly", x.rolled(0, 7), 6);
        d.due("right behind one that goes slowly", x.rolled(0, 6), NONE);
        x.lays(1, 13);
        int[][] bad = {{-1, 1}, {2, 1}, {0, 0}, {0, 41}, {MIN, 1}, {0, MAX}};
        for (int[] b : bad) {
            d.due("rolled of wrong inputs", x.rolled(b[0], b[1]), BAD);
        }
        d.due("nothing changes", x.told(0, 3), 13);
        x.lays(0, 11);
        x.weeks(1);
        d.due("rolled(0, 5), it has come", x.rolled(0, 5), NO);
    }

    private static void looked() {
        LogLetters x = fresh("promise 24");
        Due.text(x, "drift m/10");
        x.log(0, 0, 33);
        x.log(0, 0, 33);
        x.sheet(0, 0, 4);
        int[] places = {0, 2, 4, 6};
        for (int k = 0; k < 4; k++) {
            x.mark(0, k, places[k]);
        }
        d.due("looked(0, 0, 0)", x.looked(0, 0, 0), 21);
        d.due("looked(0, 0, 1)", x.looked(0, 0, 1), 0);
        x.lays(1, 3);
        d.due("from where it is", x.looked(0, 1, 1), 3 + 2 + 1 + 0);
        d.due("from where it is", x.looked(0, 1, 0), 11);
        d.due("mass is as it was", x.told(0, 2), 33);
        x.sheet(1, 1, 3);
        x.mark(1, 0, -99999);
        x.mark(1, 1, NONE);
        x.mark(1, 2, 99999);
        d.due("far apart", x.looked(1, 0, 1), 99999 + 99999 - 8);
        d.due("far apart", x.looked(1, 0, 0), 41);
        x.sheet(2, 0, 0);
        d.due("no places", x.looked(2, 0, 0), 1);
        d.due("no places", x.looked(2, 0, 1), 0);
        x.lays(1, 13);
        d.due("one that is out", x.looked(0, 1, 1), 13 + 11 + 9 + 7);
        d.due("one that is out", x.looked(0, 1, 0), 1);
        Due.text(x, "drift (m=46)*3");
        x.sheet(2, 0, 2);
        x.mark(2, 1, 3);
        d.due("the last mass", x.looked(2, 0, 0), 46);
        d.due("the last mass", x.looked(2, 0, 1), 0);
        d.due("missing", x.looked(3, 0, 0), NOTHING);
        int[][] bad = {{-1, 0, 0}, {4, 0, 0}, {3, 2, 0}, {3, -1, 0}, {3, 0, 2}, {3, 0, -1}, {MAX, 0, 0}};
        for (int[] b : bad) {
            d.due("looked of wrong inputs", x.looked(b[0], b[1], b[2]), BAD);
        }
    }

    private static void fee() {
        LogLetters x = fresh("promise 25");
        x.log(0, 0, 1);
        x.log(0, 0, 1);
        x.rule(1, 100);
        Due.text(x, "drift 0");
        x.weeks(30);
        d.due("without a text", x.fee(), x.river(2));
        d.due("both are sawn", x.fee(), 2);
        d.due("text", Due.text(x, "fee 100*w+s"), 1);
        d.due("fee()", x.fee(), 3002);
        x.weeks(5);
        d.due("fee()", x.fee(), 3502);
    }

    private static void fine() {
        LogLetters x = fresh("promise 26");
        x.log(0, 20, 7);
        x.log(3, 21, 8);
        d.due("without a text", x.fine(1), 21);
        Due.text(x, "fine l*100-m");
        d.due("fine(0)", x.fine(0), 1993);
        d.due("fine(1)", x.fine(1), 2092);
        for (int log : new int[] {-1, 2, MIN, MAX}) {
            d.due("fine(" + log + ")", x.fine(log), BAD);
        }
    }

    private static void feed() {
        LogLetters x = fresh("promise 27");
        for (int i = 1; i <= 8; i++) {
            d.due("feed", x.feed(-1, 0, MIN), 12 * i);
        }
        d.due("feed, full", x.feed(0, 0, 0), FULL);
        d.due("count(8)", x.count(8), 96);
        x.trim(85);
        d.due("feed, one too many", x.feed(0, 0, 0), FULL);
        d.due("count(8)", x.count(8), 85);
        x.trim(84);
        d.due("feed", x.feed(0, 0, 0), 96);
        x.trim(0);
        d.due("the highest byte first", x.feed(0x66656520, 0x31323334, 0x2b392a39), 12);
        d.due("text()", x.text(), 0);
        d.due("fee()", x.fee(), 1234 + 81);
    }

    private static void trim() {
        LogLetters x = fresh("promise 28");
        d.due("trim(0)", x.trim(0), 0);
        d.due("trim(1)", x.trim(1), BAD);
        x.feed(0x66656520, 0x31323334, 0x2b392a39);
        d.due("trim(13)", x.trim(13), BAD);
        d.due("trim(-1)", x.trim(-1), BAD);
        d.due("trim(MIN)", x.trim(MIN), BAD);
        d.due("count(8)", x.count(8), 12);
        d.due("trim(12)", x.trim(12), 12);
        d.due("trim(6)", x.trim(6), 6);
        d.due("text()", x.text(), 0);
        d.due("fee()", x.fee(), 12);
    }

    private static void text() {
        LogLetters x = fresh("promise 29");
        for (int i = 0; i < 14; i++) {
            d.due("text", Due.text(x, "fee " + i), i);
            d.due("the tape is used up", x.count(8), 0);
        }
        d.due("text, full", Due.text(x, "fee 99"), FULL);
        d.due("the tape is used up", x.count(8), 0);
        d.due("text, full, with a fault", Due.text(x, "fee x"), -104);
        d.due("the tape is used up", x.count(8), 0);
        d.due("fee()", x.fee(), 13);
        d.due("count(6)", x.count(6), 14);
    }

    private static void fault(String text, int place) {
        LogLetters x = fresh("promise 29, fault of '" + text + "'");
        d.due("text()", Due.text(x, text), -100 - place);
        d.due("count(6)", x.count(6), 0);
        d.due("count(8)", x.count(8), 0);
    }

    private static void textFaults() {
        fault("", 0);
        fault("     ", 5);
        fault("drift", 5);
        fault("drift  ", 7);
        fault("drif 1", 0);
        fault("  drifts 1", 2);
        fault("Drift 1", 0);
        fault("xrift 1", 0);
        fault("drifx 1", 0);
        fault("gee 1", 0);
        fault("fie 1", 0);
        fault("line 1", 0);
        fault("1", 0);
        fault("( fee 1", 0);
        fault("drift1", 5);
        fault("fee1234567", 3);
        fault("fee s1", 5);
        fault("fee 1s", 5);
        fault("fee 1 s", 6);
        fault("fee s w", 6);
        fault("fee sw", 4);
        fault("fee f", 4);
        fault("fee m", 4);
        fault("drift s", 6);
        fault("drift l", 6);
        fault("fine r", 5);
        fault("fine f", 5);
        fault("fine fine", 5);
        fault("fee 12345", 4);
        fault("fee 00001", 4);
        fault("fee 1+12345", 6);
        fault("fee 1 12345", 6);
        fault("fee +1", 4);
        fault("fee 1+", 6);
        fault("fee 1+ ", 7);
        fault("fee 1+*2", 6);
        fault("fee 1<2<3", 7);
        fault("fee 1<2+3*4 = 3", 12);
        fault("fee (1<2)<3 > 4", 12);
        fault("fee 1<(2<3<4)", 10);
        fault("fee 1<2&3<4|5=6=7", 15);
        fault("fee 1==2", 6);
        fault("fee 1!", 5);
        fault("fee 1(2)", 5);
        fault("fee (1)(2)", 7);
        fault("fee (1)2", 7);
        fault("fee )", 4);
        fault("fee ()", 5);
        fault("fee 1)", 5);
        fault("fee (1))", 7);
        fault("fee ((1)", 8);
        fault("fee !", 5);
        fault("fee !&1", 5);
        fault("fee 1%2", 5);
        fault("fee S", 4);
        fault("fee" + (char) 9 + "1", 3);
        fault("fee 1" + (char) 0, 5);
        fault("fee 1" + (char) 160, 5);
        fault("fee " + (char) 255, 4);
        fault("fee" + (char) (32 + 128) + "1", 3);
        StringBuilder longest = new StringBuilder("fee 1");
        while (longest.length() < 95) {
            longest.append("+1");
        }
        fault(longest + "+", 96);
    }

    private static void textDepths() {
        LogLetters x = fresh("promise 29, depths");
        d.due("eight (", Due.text(x, "fee " + "(".repeat(8) + "7" + ")".repeat(8)), 0);
        d.due("fee()", x.fee(), 7);
        d.due("eight !", Due.text(x, "fee " + "!".repeat(8) + "7"), 1);
        d.due("fee()", x.fee(), 1);
        d.due("eight ! and eight (", Due.text(x, "fee " + "!(".repeat(8) + "7" + ")".repeat(8)), 2);
        d.due("fee()", x.fee(), 1);
        d.due("more than eight beside one another", Due.text(x, "fee (1)+(2)+(3)+(4)+(5)+(6)+(7)+(8)+(9)+(10)"), 3);
        d.due("fee()", x.fee(), 55);
        d.due("more than eight beside one another", Due.text(x, "fee !0+!0+!0+!0+!0+!(0)+!0+!0+!0+!0"), 4);
        d.due("fee()", x.fee(), 10);
        d.due("the 8th again behind one that is closed", Due.text(x, "fee " + "(".repeat(7) + "(1)+(2)" + ")".repeat(7)), 5);
        d.due("fee()", x.fee(), 3);
        fault("fee " + "(".repeat(9) + "1", 12);
        fault("fee " + "!".repeat(9) + "1", 12);
        fault("fee " + "!(".repeat(8) + "!1", 20);
        fault("fee " + "!(".repeat(8) + "(1", 20);
        fault("fee " + "(".repeat(8) + "1+(", 14);
        fault("fee !(!(!(!(!(!(!(!1+!(!1", 23);
    }

    private static void textsBehindFaults() {
        LogLetters x = fresh("promise 29, a text behind one with a fault");
        String[] faults = {"fee ((((((((", "fee !!!!!!!!", "fee 1<2<", "fee 1+(2*", "fee (1<2", "12", "fee 1+!"};
        for (int i = 0; i < faults.length; i++) {
            d.due("'" + faults[i] + "'", Due.text(x, faults[i]) <= -100 ? 1 : 0, 1);
            d.due("text", Due.text(x, i % 2 == 0 ? "fee 0<2" : "fee !(1<2)+1"), 2 * i);
            d.due("fee()", x.fee(), 1);
            d.due("numbers and names", x.textTold(2 * i, 1), i % 2 == 0 ? 2 : 3);
            d.due("'" + faults[i] + "'", Due.text(x, faults[i]) <= -100 ? 1 : 0, 1);
            d.due("text", Due.text(x, i % 2 == 1 ? "fee 0<2" : "fee !(1<2)+1"), 2 * i + 1);
            d.due("fee()", x.fee(), 1);
        }
    }

    private static void gives(String text, int due) {
        LogLetters x = fresh("section 4, '" + text + "'");
        d.due("text()", Due.text(x, text), 0);
        d.due("fee()", x.fee(), due);
    }

    private static void textsGive() {
        gives("fee 0", 0);
        gives("  fee   9999  ", 9999);
        gives("fee(1)", 1);
        gives("fee!0", 1);
        gives("fee 0012", 12);
        gives("fee 2+3*4", 14);
        gives("fee (2+3)*4", 20);
        gives("fee 10-3-4", 3);
        gives("fee 100/7/2", 7);
        gives("fee 100/7*2", 28);
        gives("fee (0-7)/2", -3);
        gives("fee 7/0", 0);
        gives("fee 1<2", 1);
        gives("fee 2<2", 0);
        gives("fee 2=2", 1);
        gives("fee 2>2", 0);
        gives("fee 3>2", 1);
        gives("fee 1+1<1+2", 1);
        gives("fee (0-1)<0", 1);
        gives("fee 5&7", 1);
        gives("fee 5&0", 0);
        gives("fee 0|7", 1);
        gives("fee 0|0", 0);
        gives("fee 1|1&0", 1);
        gives("fee (1|1)&0", 0);
        gives("fee 0&0|1", 1);
        gives("fee 1<2&2<3", 1);
        gives("fee 1<2&3<3", 0);
        gives("fee 0=1|4>3", 1);
        gives("fee !5", 0);
        gives("fee !0+2", 3);
        gives("fee !(0+2)", 0);
        gives("fee !!5", 1);
        gives("fee !0*7-!3", 7);
        gives("fee !(0=0)|!0&!0", 1);
        gives("fee 9999*9999*9999", 9999 * 9999 * 9999);
        gives("fee (0-2)*8192*8192*16/(0-1)", MIN);
        gives("fee 3 - ( 2 - ( 1 - 5 ) )", -3);
        gives("fee 2*3<7&!(1>2)", 1);
        LogLetters x = fresh("section 4, the one told last counts");
        x.rule(2, 6);
        x.log(0, 0, 20);
        Due.text(x, "drift 2");
        Due.text(x, "drift f*m*r+1");
        d.due("drift", x.told(0, 5), 1);
        x.lays(0, 1);
        d.due("drift, held within 12", x.told(0, 5), 12);
    }

    private static void textTold() {
        LogLetters x = fresh("promise 30");
        d.due("textTold(0, 0)", x.textTold(0, 0), BAD);
        Due.text(x, "fine l+m*(!2-l)");
        Due.text(x, "fee 1");
        Due.text(x, "drift f");
        int[][] told = {{2, 4}, {1, 1}, {0, 1}};
        for (int t = 0; t < 3; t++) {
            d.due("key of " + t, x.textTold(t, 0), told[t][0]);
            d.due("numbers and names of " + t, x.textTold(t, 1), told[t][1]);
        }
        int[][] bad = {{-1, 0}, {3, 0}, {0, -1}, {0, 2}, {MIN, 0}, {MAX, 0}};
        for (int[] b : bad) {
            d.due("textTold of wrong inputs", x.textTold(b[0], b[1]), BAD);
        }
    }

    private static void why() {
        LogLetters x = fresh("promise 31");
        d.due("why(-1)", x.why(-1), BAD);
        d.due("why(3)", x.why(3), BAD);
        Due.text(x, "fee 1");
        Due.text(x, "fine 1");
        d.due("why(0)", x.why(0), NONE);
        d.due("why(1)", x.why(1), 0);
        Due.text(x, "fee 2");
        d.due("why(1)", x.why(1), 2);
        d.due("why(2)", x.why(2), 1);
        Due.text(x, "fee 3 3");
        d.due("why(1)", x.why(1), 2);
    }

    private static void sheet() {
        LogLetters x = fresh("promise 32");
        int[][] bad = {{-1, 0, 1}, {4, 0, 1}, {0, -2, 1}, {0, 2, 1}, {0, 0, 25}, {0, 1, MAX}, {4, 0, -1}, {0, 2, -1}};
        for (int[] b : bad) {
            d.due("sheet of wrong inputs", x.sheet(b[0], b[1], b[2]), BAD);
        }
        d.due("sheet(0, 0, -1)", x.sheet(0, 0, -1), SIZE);
        d.due("sheet(0, 1, MIN)", x.sheet(0, 1, MIN), SIZE);
        d.due("still missing", x.reads(0), NOTHING);
        d.due("sheet(0, 0, 24)", x.sheet(0, 0, 24), 24);
        d.due("mark(0, 23, 9)", x.mark(0, 23, 9), 1);
        d.due("mark(0, 0, 9)", x.mark(0, 0, 9), 1);
        d.due("sheet(0, 1, 0)", x.sheet(0, 1, 0), 0);
        d.due("no place", x.mark(0, 0, 1), INDEX);
        d.due("sheet(0, 0, 24)", x.sheet(0, 0, 24), 24);
        x.lay(0, 2, 0);
        d.due("all 0", x.item(0, 23), 0);
        d.due("all 0", x.item(0, 0), 0);
        d.due("sheet(0, 0, -1)", x.sheet(0, 0, -1), SIZE);
        d.due("as it was", x.mark(0, 23, 1), 1);
        d.due("sheet(0, -1, 99)", x.sheet(0, -1, 99), 0);
        d.due("missing", x.mark(0, 0, 1), NOTHING);
        d.due("sheet(0, -1, MIN)", x.sheet(0, -1, MIN), 0);
    }

    private static void mark() {
        LogLetters x = fresh("promise 33");
        d.due("mark(-1, 0, 0)", x.mark(-1, 0, 0), BAD);
        d.due("mark(4, 0, 0)", x.mark(4, 0, 0), BAD);
        d.due("mark(0, -1, NONE)", x.mark(0, -1, NONE), NOTHING);
        x.sheet(0, 0, 3);
        x.sheet(1, 1, 3);
        d.due("mark(0, 3, NONE)", x.mark(0, 3, NONE), INDEX);
        d.due("mark(0, -1, 0)", x.mark(0, -1, 0), INDEX);
        d.due("mark(0, MAX, 0)", x.mark(0, MAX, 0), INDEX);
        d.due("mark(1, 3, 100000)", x.mark(1, 3, 100000), INDEX);
        d.due("mark(0, 0, NONE)", x.mark(0, 0, NONE), KIND);
        d.due("mark(0, 0, 32768)", x.mark(0, 0, 32768), 1);
        d.due("mark(0, 1, -65537)", x.mark(0, 1, -65537), 1);
        d.due("mark(0, 2, MAX)", x.mark(0, 2, MAX - 7), 1);
        x.lay(0, 2, 0);
        d.due("lowest 16 bits", x.item(0, 0), -32768);
        d.due("lowest 16 bits", x.item(0, 1), -1);
        d.due("lowest 16 bits", x.item(0, 2), -8);
        d.due("mark(1, 0, 99999)", x.mark(1, 0, 99999), 1);
        d.due("mark(1, 1, -99999)", x.mark(1, 1, -99999), 1);
        d.due("mark(1, 0, 100000)", x.mark(1, 0, 100000), BAD);
        d.due("mark(1, 0, -100000)", x.mark(1, 0, -100000), BAD);
        d.due("mark(1, 0, MIN)", x.mark(1, 0, MIN), BAD);
        d.due("mark(1, 2, NONE)", x.mark(1, 2, NONE), 1);
        x.lay(1, 2, 1);
        d.due("item(1, 0)", x.item(1, 0), 99999);
        d.due("item(1, 1)", x.item(1, 1), -99999);
        d.due("item(1, 2)", x.item(1, 2), KIND);
    }

    private static void pour() {
        LogLetters x = fresh("promise 34");
        d.due("pour(-1)", x.pour(-1), BAD);
        d.due("pour(4)", x.pour(4), BAD);
        d.due("pour(0)", x.pour(0), NOTHING);
        x.sheet(0, 1, 5);
        int[] places = {4, 0, 13, NONE, 7};
        for (int k = 0; k < 5; k++) {
            x.mark(0, k, places[k]);
        }
        d.due("pour(0)", x.pour(0), 3);
        d.due("pour(0) again", x.pour(0), 0);
        int[] rooms = {4, 1, 12, 4, 7, 4};
        for (int r = 0; r < rooms.length; r++) {
            d.due("room of " + r, x.reach(r, 0, 4), rooms[r]);
        }
        x.sheet(1, 0, 24);
        for (int k = 0; k < 24; k++) {
            x.mark(1, k, k - 1);
        }
        d.due("pour(1)", x.pour(1), 11);
        for (int r = 0; r < 12; r++) {
            d.due("room of " + r, x.reach(r, 0, 4), Math.max(1, r - 1));
        }
        x.sheet(2, 0, 0);
        d.due("pour(2)", x.pour(2), 0);
    }

    private static void reads() {
        LogLetters x = fresh("promise 35");
        d.due("reads(-1)", x.reads(-1), BAD);
        d.due("reads(4)", x.reads(4), BAD);
        d.due("reads(3)", x.reads(3), NOTHING);
        x.log(0, 0, 1);
        x.log(0, 0, 1);
        x.lays(1, 13);
        x.sheet(3, 1, 4);
        d.due("reads(3)", x.reads(3), 1);
        x.mark(3, 1, 13);
        d.due("reads(3), no such log", x.reads(3), 2);
        x.mark(3, 2, NONE);
        d.due("reads(3), no such log", x.reads(3), 3);
        x.mark(3, 3, NONE);
        d.due("reads(3)", x.reads(3), NONE);
        x.mark(3, 0, -1);
        d.due("reads(3)", x.reads(3), 0);
        x.sheet(3, 0, 0);
        d.due("reads(3), no places", x.reads(3), NONE);
    }

    private static void copy() {
        LogLetters x = fresh("promise 36");
        x.sheet(0, 0, 5);
        x.sheet(1, 0, 3);
        x.sheet(2, 1, 3);
        for (int k = 0; k < 5; k++) {
            x.mark(0, k, k + 1);
        }
        int[][] bad = {{-1, 0, 0, 0, 0}, {4, 0, 0, 0, 0}, {0, 0, -1, 0, 0}, {0, 0, 4, 0, 0}, {3, 0, 4, 0, 0}};
        for (int[] b : bad) {
            d.due("copy of wrong sheets", x.copy(b[0], b[1], b[2], b[3], b[4]), BAD);
        }
        d.due("from a missing one", x.copy(3, 0, 0, 0, 1), NOTHING);
        d.due("to a missing one", x.copy(0, 0, 3, 0, 99), NOTHING);
        d.due("of two sorts", x.copy(0, 0, 2, 0, 99), KIND);
        int[][] beyond = {{-1, 0, 1}, {0, -1, 1}, {0, 0, -1}, {0, 0, 4}, {3, 0, 3}, {0, 1, 3}, {6, 0, 0}, {0, 4, 0},
            {MAX, 0, 1}, {1, 0, MAX}, {0, MAX, MAX}, {MIN, 0, 1}, {0, 0, MIN}};
        for (int[] b : beyond) {
            d.due("copy beyond", x.copy(0, b[0], 1, b[1], b[2]), INDEX);
        }
        d.due("none, right behind the last", x.copy(0, 5, 1, 3, 0), 0);
        d.due("copy(0, 2, 1, 0, 3)", x.copy(0, 2, 1, 0, 3), 3);
        x.lay(0, 2, 1);
        for (int k = 0; k < 3; k++) {
            d.due("item(0, " + k + ")", x.item(0, k), k + 3);
        }
        d.due("onto itself, up", x.copy(0, 0, 0, 1, 4), 4);
        d.due("onto itself, down", x.copy(0, 2, 0, 0, 3), 3);
        x.lay(0, 2, 0);
        int[] due = {2, 3, 4, 3, 4};
        for (int k = 0; k < 5; k++) {
            d.due("item(0, " + k + ")", x.item(0, k), due[k]);
        }
        x.sheet(3, 1, 2);
        x.mark(2, 1, NONE);
        d.due("no number, too", x.copy(2, 1, 3, 0, 2), 2);
        x.lay(0, 2, 3);
        d.due("item(0, 0)", x.item(0, 0), KIND);
        d.due("item(0, 1)", x.item(0, 1), 0);
    }

    private static void lay() {
        LogLetters x = fresh("promise 37");
        x.log(0, 0, 20);
        int[][] bad = {{-1, 0, 0}, {5, 0, 0}, {0, -1, 0}, {0, 4, 0}, {0, 1, 1}, {0, 1, -1}, {0, 2, 4}, {0, 2, -1}, {MAX, 0, 0}};
        for (int[] b : bad) {
            d.due("lay of wrong inputs", x.lay(b[0], b[1], b[2]), BAD);
        }
        d.due("a missing sheet", x.lay(0, 2, 3), NOTHING);
        x.sheet(3, 0, 2);
        x.mark(3, 1, 8);
        d.due("lay(4, 3, MIN)", x.lay(4, 3, MIN), 0);
        d.due("lay(4, 1, 0)", x.lay(4, 1, 0), 3);
        d.due("lay(4, 2, 3)", x.lay(4, 2, 3), 1);
        d.due("refused", x.lay(4, 2, 0), NOTHING);
        d.due("refused", x.lay(4, 1, 7), BAD);
        d.due("as it was", x.item(4, 1), 8);
        x.mark(3, 1, 9);
        d.due("a row of its own", x.item(4, 1), 8);
        x.sheet(3, -1, 0);
        d.due("a row of its own", x.item(4, 1), 8);
        d.due("lay(4, 0, MAX)", x.lay(4, 0, MAX), 2);
        d.due("lay(4, 0, 0)", x.lay(4, 0, 0), 0);
        d.due("item(4, 1)", x.item(4, 1), NOTHING);
    }

    private static void ask() {
        LogLetters x = fresh("promise 38");
        int[] worth = {21, 28, 78, 56, 73, 1};
        int[] under = {1, 3, 5, 11, 21, 33};
        for (int kind = 0; kind < 6; kind++) {
            x.log(kind, 0, 21);
            x.lay(0, 1, kind);
            for (int as = 0; as < 6; as++) {
                d.due("ask " + kind + " as " + as, x.ask(0, as), (under[kind] >> as & 1) == 1 ? worth[kind] : KIND);
            }
        }
        x.lay(1, 1, 1);
        x.turns(1, 5);
        x.set(1, 2, 50);
        d.due("as it was then", x.ask(1, 1), 28);
        x.lay(2, 3, 0);
        d.due("a number", x.ask(2, 0), KIND);
        x.sheet(0, 0, 1);
        x.lay(3, 2, 0);
        d.due("a sheet", x.ask(3, 0), KIND);
        d.due("nothing", x.ask(4, 0), NOTHING);
        int[][] bad = {{-1, 0}, {5, 0}, {4, 6}, {4, -1}, {MIN, 0}};
        for (int[] b : bad) {
            d.due("ask of wrong inputs", x.ask(b[0], b[1]), BAD);
        }
    }

    private static void item() {
        LogLetters x = fresh("promise 39");
        d.due("item(-1, 0)", x.item(-1, 0), BAD);
        d.due("item(5, 0)", x.item(5, 0), BAD);
        d.due("item(0, -1)", x.item(0, -1), NOTHING);
        x.log(0, 0, 1);
        x.lay(0, 1, 0);
        d.due("a log", x.item(0, -1), KIND);
        x.lay(0, 3, 0);
        d.due("a number", x.item(0, 0), KIND);
        x.sheet(0, 1, 2);
        x.mark(0, 0, -7);
        x.mark(0, 1, NONE);
        x.lay(0, 2, 0);
        d.due("item(0, 0)", x.item(0, 0), -7);
        d.due("no number", x.item(0, 1), KIND);
        d.due("item(0, 2)", x.item(0, 2), INDEX);
        d.due("item(0, -1)", x.item(0, -1), INDEX);
        d.due("item(0, MAX)", x.item(0, MAX), INDEX);
    }

    private static void rest() {
        LogLetters x = fresh("promise 40");
        d.due("rest(-1, 0)", x.rest(-1, 0), BAD);
        d.due("rest(5, 0)", x.rest(5, 0), BAD);
        d.due("rest(0, 0)", x.rest(0, 0), NOTHING);
        x.log(0, 0, 1);
        x.lay(0, 1, 0);
        d.due("a log", x.rest(0, 0), KIND);
        x.sheet(0, 0, 1);
        x.lay(0, 2, 0);
        d.due("a sheet", x.rest(0, 1), KIND);
        x.lay(0, 3, MIN);
        d.due("rest(0, 0)", x.rest(0, 0), NO);
        d.due("rest(0, -1)", x.rest(0, -1), 0);
        d.due("rest(0, 10)", x.rest(0, 10), -8);
        x.lay(0, 3, 17);
        d.due("rest(0, -5)", x.rest(0, -5), 2);
    }

    private static void tell() {
        LogLetters x = fresh("promise 41");
        for (int i = 1; i <= 60; i++) {
            d.due("tell", x.tell(MIN + i), i);
        }
        d.due("tell, full", x.tell(0), FULL);
        d.due("count(7)", x.count(7), 60);
        x.check(1);
        d.due("tell", x.tell(0), 1);
    }

    private static void check() {
        LogLetters x = steady("promise 42", 3);
        x.log(0, 0, 1);
        x.log(5, 0, 1);
        x.log(0, 0, 1);
        x.lays(2, 13);
        x.tell(1);
        d.due("check(0)", x.check(0), BAD);
        d.due("none waits then", x.count(7), 0);
        x.tell(1);
        d.due("check(31), no image", x.check(31), BAD);
        d.due("none waits then", x.count(7), 0);
        x.tell(1);
        d.due("check(1), no image", x.check(1), NO);
        d.due("none waits then", x.count(7), 0);
        x.keep();
        x.weeks(7);
        int[] due = {0, 16, 0, 19, 0, 22, 1, 25, 1, 25};
        tellAll(x, due, 10);
        d.due("check(5)", x.check(5), 0);
        d.due("none waits then", x.count(7), 0);
        for (int many = 0; many < 10; many++) {
            tellAll(x, due, many);
            d.due("one is missing behind " + many, x.check(5), 1 + many);
        }
        tellAll(x, due, 10);
        d.due("two too many", x.check(4), 9);
        for (int i = 0; i < 10; i++) {
            due[i]++;
            tellAll(x, due, 10);
            d.due("wrong at " + i, x.check(5), 1 + i);
            due[i]--;
        }
        for (int i = 0; i < 60; i++) {
            x.tell(i < 6 ? due[i] : i % 2 == 0 ? 1 : 25);
        }
        d.due("check(30)", x.check(30), 0);
        d.due("nothing changes", x.count(1), 7);
    }

    private static void tellAll(LogLetters x, int[] due, int many) {
        for (int i = 0; i < many; i++) {
            x.tell(due[i]);
        }
    }

    private static void keepAndBack() {
        LogLetters x = steady("promises 43 and 44", 12);
        d.due("back()", x.back(), NO);
        x.log(2, 3, 40);
        x.word(3);
        x.reach(2, 0, 9);
        x.reach(4, 1, 1);
        x.rule(0, 2);
        x.rule(1, 5);
        x.rule(2, 7);
        x.seed(99);
        Due.text(x, "fee 5");
        d.due("keep()", x.keep(), 1);
        for (int round = 0; round < 3; round++) {
            x.reach(4, 1, 0);
            x.reach(2, 0, 1);
            x.rule(1, 100);
            x.weeks(9);
            x.unword();
            x.word(1);
            x.word(2);
            x.turns(0, 5);
            x.set(0, 1, 9);
            x.set(0, 2, 9);
            x.deal(11);
            x.rule(0, 0);
            x.rule(1, 0);
            x.rule(2, 1);
            Due.text(x, "fee 6");
            Due.text(x, "drift 0");
            x.tell(4);
            x.sheet(round, 0, 3);
            x.lay(round, 3, 8);
            x.feed(1, 2, 3);
            d.due("back()", x.back(), 1);
            int[] counts = {1, 0, 7, 2, 5, 1, 2, round + 1, 12, 99};
            for (int what = 0; what < 10; what++) {
                d.due("count(" + what + ")", x.count(what), counts[what]);
            }
            int[] told = {2, 3, 40, 0, 0, 13, 15, 59};
            for (int what = 0; what < 8; what++) {
                d.due("told(0, " + what + ")", x.told(0, what), told[what]);
            }
            d.due("read(-1)", x.read(-1), 0);
            d.due("sawn", x.river(2), 0);
            d.due("fee()", x.fee(), 5);
            d.due("why(0)", x.why(0), 0);
            d.due("room", x.reach(2, 0, 9), 9);
            d.due("boom", x.reach(4, 1, 1), 1);
            d.due("a sheet stays", x.reads(round), 1);
            d.due("a slot stays", x.rest(round, 5), 3);
        }
        x.deal(3);
        d.due("log", x.log(0, 0, 1), 4);
        d.due("keep() again", x.keep(), 5);
        x.weeks(1);
        d.due("back()", x.back(), 5);
        d.due("count(1)", x.count(1), 0);

        x = steady("promise 44: sawn", 0);
        x.rule(1, 1);
        x.log(0, 0, 1);
        x.log(0, 0, 1);
        x.weeks(1);
        d.due("by a saw of 1 there is a draw", x.count(9) == Due.nextZ(1) ? 1 : 0, 0);
        x.rule(1, 100);
        while (x.river(2) < 1) {
            x.weeks(1);
        }
        x.keep();
        while (x.river(2) < 2) {
            x.weeks(1);
        }
        x.back();
        d.due("sawn", x.river(2), 1);

        x = steady("promise 44: logs that come again", 12);
        x.keep();
        x.log(1, 1, 1);
        x.log(0, 1, 1);
        x.weeks(1);
        d.due("came", x.told(1, 4), 1);
        x.back();
        d.due("log", x.log(0, 1, 1), 0);
        d.due("reach", x.told(0, 3), 0);
        d.due("came", x.told(0, 4), 0);
        d.due("read(0)", x.read(0), NONE);
        d.due("weeks(1)", x.weeks(1), 1);
        d.due("came", x.told(0, 4), 1);
    }

    /** Where every row is at its end, and nothing is found in any of them. */
    private static void allFull() {
        LogLetters x = fresh("all rows are full");
        for (int i = 0; i < 14; i++) {
            x.log(5, 1, 1);
            x.word(2);
            Due.text(x, "fee 1");
        }
        x.lays(11, 13);
        x.keep();
        for (int i = 0; i < 60; i++) {
            x.tell(i % 2 == 0 ? 0 : 13);
        }
        x.tell(7);
        d.due("check(30)", x.check(30), 0);
        for (int k = 0; k < 12; k++) {
            d.due("read(" + k + ")", x.read(k), NONE);
        }
        d.due("spelt", x.river(0), 0);
        d.due("jam", x.river(1), 11);
        d.due("on the river", x.river(4), 2047);
        d.due("whole()", x.whole(), NONE);
        d.due("frees(40, 0)", x.frees(40, 0), 0);
        d.due("lost(40)", x.lost(40), 2047);
        d.due("wider(40, 0)", x.wider(40, 0), 0);
        d.due("opened(60)", x.opened(60), 0);
        d.due("rolled(11, 40)", x.rolled(11, 40), NONE);
        d.due("why(0)", x.why(0), NONE);
        d.due("textTold(13, 1)", x.textTold(13, 1), 1);
        d.due("textTold(14, 1)", x.textTold(14, 1), BAD);
        x.sheet(3, 0, 24);
        d.due("looked(3, 11, 1)", x.looked(3, 11, 1), 24 * 13);
        d.due("reads(3)", x.reads(3), 11);
        d.due("copy(3, 0, 3, 0, 24)", x.copy(3, 0, 3, 0, 24), 24);
    }

    private static void count() {
        LogLetters x = fresh("promise 45");
        x.deal(3);
        x.weeks(4);
        x.rule(0, 6);
        x.rule(1, 61);
        x.rule(2, 8);
        x.word(1);
        x.word(1);
        Due.text(x, "fee 1");
        x.tell(5);
        x.feed(1, 2, 3);
        x.seed(-3);
        int[] due = {3, 4, 8, 6, 61, 2, 1, 1, 12, -3};
        for (int what = 0; what < due.length; what++) {
            d.due("count(" + what + ")", x.count(what), due[what]);
        }
        for (int what : new int[] {-1, 10, MIN, MAX}) {
            d.due("count(" + what + ")", x.count(what), BAD);
        }
    }
}
