/** Terms, part 3: what is read, and what is only thought, at the ends. */
public final class ThoughtEdgeTest {
    private static final int BAD = -1000000001, NO = -1000000002, NONE = -1000000005;
    private static final int LOG = 0, SUNK = 5;
    private static final Due d = new Due();

    public static void main(String[] args) {
        readInTheOrderInWhichTheyCame();
        readOfNone();
        speltOfAnEmptyWord();
        speltEachOnce();
        speltOnlyByThoseThatHaveCome();
        speltOfTwelve();
        jamAsManyAsRoomOrMore();
        jamOfSeveralReaches();
        jamOfNoneThatAreGone();
        behindNone();
        behindAsWeeks();
        thoughtWithoutTheBoundOfTheWeek();
        wholeFirst();
        wholeWithin200();
        wholeNever();
        freesOfSeveralTheLeast();
        freesTheOneInTheWay();
        freesIsOutItself();
        freesNoneOnTheRiver();
        lostIfNotLess();
        lostOnlyOnTheRiver();
        lostOfTwelve();
        widerOfSeveralTheLeast();
        widerByTwo();
        widerBeyondTwelve();
        openedMoreOrFewer();
        rolledTheLatest();
        rolledNotLaterNotSooner();
        rolledWhateverTheRoom();
        lookedMasses();
        lookedOfSeveralTheLeast();
        lookedFromNowOn();
        lookedSignsLeftOut();
        lookedNoNumber();
        lookedOfTheGone();
        d.end();
    }

    private static LogLetters fresh(String about) {
        d.about("terms 3: " + about);
        return new LogLetters();
    }

    private static LogLetters steady(String about, int drift) {
        LogLetters x = fresh(about);
        d.due("text", Due.text(x, "drift " + drift), 0);
        return x;
    }

    private static int logAt(LogLetters x, int kind, int letter, int reach) {
        int log = x.log(kind, letter, 1);
        x.lays(log, reach);
        return log;
    }

    // ---- read, spelt, jam

    private static void readInTheOrderInWhichTheyCame() {
        LogLetters x = steady("READ in the order in which they came", 1);
        for (int i = 0; i < 12; i++) {
            logAt(x, LOG, 25 - i, i);
        }
        for (int come = 0; come <= 12; come++) {
            d.due("how many", x.read(-1), come);
            for (int k = 0; k < 12; k++) {
                d.due("at place " + k + " of " + come, x.read(k), k < come ? 14 + k : NONE);
            }
            x.weeks(1);
        }
    }

    private static void readOfNone() {
        LogLetters x = fresh("READ of none");
        d.due("how many", x.read(-1), 0);
        d.due("at place 0", x.read(0), NONE);
        d.due("at place 11", x.read(11), NONE);
        d.due("at place 12", x.read(12), BAD);
        d.due("at place -2", x.read(-2), BAD);
    }

    /** Logs with these letters, all of which have come. */
    private static LogLetters come(String about, int... letters) {
        LogLetters x = steady(about, 12);
        for (int letter : letters) {
            x.log(LOG, letter, 1);
        }
        d.due("weeks(1)", x.weeks(1), letters.length);
        return x;
    }

    private static void speltOfAnEmptyWord() {
        d.due("no WORD, no LOGS", fresh("SPELT of an empty WORD").river(0), 0);
        d.due("no WORD", come("SPELT of an empty WORD", 0, 1, 2).river(0), 0);
        LogLetters x = fresh("SPELT by no LOGS");
        x.word(0);
        d.due("no LOGS", x.river(0), 0);
    }

    private static void speltEachOnce() {
        LogLetters x = come("SPELT: each once", 0, 25, 0, 7);
        int[] word = {0, 0, 0, 25, 25, 7, 8};
        int[] dues = {1, 2, 2, 3, 3, 4, 4};
        for (int i = 0; i < word.length; i++) {
            x.word(word[i]);
            d.due("SPELT of " + (i + 1) + " LETTERS", x.river(0), dues[i]);
        }
        x.unword();
        x.word(0);
        d.due("a LETTER is laid once, too", x.river(0), 1);
    }

    private static void speltOnlyByThoseThatHaveCome() {
        LogLetters x = steady("SPELT by LOGS that have COME alone", 1);
        logAt(x, LOG, 3, 11);
        logAt(x, LOG, 3, 13);
        logAt(x, LOG, 3, 10);
        x.word(3);
        x.word(3);
        x.word(3);
        int[] dues = {0, 1, 2, 2};
        for (int due : dues) {
            d.due("SPELT", x.river(0), due);
            x.weeks(1);
        }
    }

    private static void speltOfTwelve() {
        LogLetters x = come("SPELT of twelve", 4, 4, 4, 4, 4, 4, 4, 4, 4, 4, 4, 4);
        for (int many = 1; many <= 12; many++) {
            x.word(4);
            d.due("SPELT", x.river(0), many);
        }
        d.due("whole()", x.whole(), 0);
    }

    private static void jamAsManyAsRoomOrMore() {
        for (int reach : new int[] {0, 6, 11}) {
            for (int room = 1; room <= 12; room++) {
                LogLetters x = fresh("JAM: as many as ROOM, or more");
                x.reach(reach, 0, room);
                for (int held = 1; held <= 12; held++) {
                    logAt(x, SUNK, 0, reach);
                    d.due("ROOM " + room + ", holds " + held, x.river(1), held >= room ? held : 0);
                }
            }
        }
    }

    private static void jamOfSeveralReaches() {
        LogLetters x = fresh("JAM: LOGS in all reaches that are full");
        int[] at = {0, 0, 3, 3, 3, 11, 11, 7};
        for (int reach : at) {
            logAt(x, SUNK, 0, reach);
        }
        x.reach(0, 0, 2);
        x.reach(3, 0, 4);
        x.reach(11, 0, 1);
        x.reach(7, 0, 1);
        d.due("2 and 2 and 1, not 3", x.river(1), 5);
        x.reach(3, 0, 3);
        d.due("2 and 3 and 2 and 1", x.river(1), 8);
    }

    private static void jamOfNoneThatAreGone() {
        LogLetters x = come("JAM: only LOGS that stand in reaches", 0, 0, 0, 0, 0);
        for (int i = 0; i < 5; i++) {
            logAt(x, SUNK, 0, 13);
        }
        d.due("JAM", x.river(1), 0);
        d.due("JAM of none", fresh("JAM of none").river(1), 0);
    }

    // ---- behind

    private static void behindNone() {
        LogLetters x = steady("BEHIND 0 WEEKS all is as it is now", 1);
        logAt(x, LOG, 2, 11);
        x.weeks(1);
        logAt(x, LOG, 0, 4);
        logAt(x, LOG, 0, 13);
        x.word(2);
        int[] dues = {1, 0, 1, 12, 4, 13};
        for (int what = 0; what < dues.length; what++) {
            d.due("behind(0, " + what + ")", x.behind(0, what), dues[what]);
        }
        d.due("behind(0, 6)", x.behind(0, 6), BAD);
    }

    private static LogLetters dealt(int seed) {
        LogLetters x = new LogLetters();
        x.seed(seed);
        x.deal(12);
        x.rule(1, 20);
        x.rule(0, seed % 4);
        for (int i = 0; i < 12; i++) {
            x.word(x.told(i, 1));
        }
        return x;
    }

    private static void behindAsWeeks() {
        d.about("terms 3: BEHIND n WEEKS is as n WEEKS");
        for (int seed = 0; seed < 20; seed++) {
            for (int n : new int[] {1, 2, 7, 59, 60}) {
                LogLetters x = dealt(seed);
                LogLetters y = dealt(seed);
                y.weeks(n);
                d.due("COME", x.behind(n, 0), y.river(3));
                d.due("SAWN", x.behind(n, 1), y.river(2));
                d.due("SPELT", x.behind(n, 2), y.river(0));
                for (int i = 0; i < 12; i++) {
                    d.due("REACH of " + i, x.behind(n, 3 + i), y.told(i, 3));
                }
            }
        }
    }

    private static void thoughtWithoutTheBoundOfTheWeek() {
        LogLetters x = steady("without the bound of THE WEEK", 1);
        for (int i = 0; i < 167; i++) {
            x.weeks(60);
        }
        d.due("THE WEEK", x.count(1), 9999);
        logAt(x, LOG, 0, 0);
        logAt(x, LOG, 1, 6);
        logAt(x, LOG, 2, 13);
        x.word(0);
        x.word(1);
        x.sheet(0, 0, 13);
        for (int k = 0; k < 13; k++) {
            x.mark(0, k, k);
        }
        d.due("behind(11, 0)", x.behind(11, 0), 1);
        d.due("behind(12, 0)", x.behind(12, 0), 2);
        d.due("behind(60, 2)", x.behind(60, 2), 2);
        d.due("whole()", x.whole(), 12);
        d.due("frees(40, 1)", x.frees(40, 1), 1);
        d.due("lost(40)", x.lost(40), 0);
        d.due("wider(40, 1)", x.wider(40, 1), 2);
        d.due("rolled(2, 40)", x.rolled(2, 40), 28);
        d.due("looked(0, 0, 1)", x.looked(0, 0, 1), 0);
        x.reach(3, 1, 1);
        d.due("opened(60)", x.opened(60), 1);
        d.due("THE WEEK is as it was", x.count(1), 9999);
        d.due("weeks(60)", x.weeks(60), 0);
    }

    // ---- whole

    private static void wholeFirst() {
        LogLetters x = steady("WHOLE: first", 1);
        d.due("an empty WORD", x.whole(), 0);
        for (int reach = 0; reach < 12; reach++) {
            logAt(x, LOG, reach, reach);
        }
        for (int letter = 11; letter >= 0; letter--) {
            x.word(letter);
            d.due("down to the one in reach " + letter, x.whole(), 12 - letter);
        }
        x.weeks(11);
        d.due("behind 11 WEEKS", x.whole(), 1);
        x.weeks(1);
        d.due("behind 12 WEEKS", x.whole(), 0);
    }

    private static void wholeWithin200() {
        int seen = 0;
        for (int seed = 0; seed < 200000 && seen < 7; seed++) {
            int week = weekOfTwelve(seed);
            if (week >= 200 && week <= 202 && (seen & 1 << week - 200) == 0) {
                seen |= 1 << week - 200;
                LogLetters x = fresh("WHOLE: behind how many WEEKS (0 .. 200)");
                Due.text(x, "drift f=0");
                x.log(LOG, 9, 1);
                x.word(9);
                x.seed(seed);
                d.due("the word is whole behind " + week, x.whole(), week == 200 ? 200 : NONE);
            }
        }
        d.due("200, 201 and 202 were seen", seen, 7);
    }

    /** The week in which, from a seed on, the flood is 0 for the twelfth time. */
    private static int weekOfTwelve(int seed) {
        int z = seed;
        int zeros = 0;
        for (int week = 1; week <= 210; week++) {
            z = Due.nextZ(z);
            zeros += Lots.given(z) % 10 == 0 ? 1 : 0;
            if (zeros == 12) {
                return week;
            }
        }
        return 0;
    }

    private static void wholeNever() {
        LogLetters x = come("WHOLE: NONE, not by then", 3, 4);
        x.word(3);
        x.word(4);
        d.due("both have COME", x.whole(), 0);
        x.word(4);
        d.due("one LETTER more than has COME", x.whole(), NONE);
        x.log(LOG, 4, 1);
        d.due("it comes in a WEEK", x.whole(), 1);
        x.lays(2, 13);
        d.due("it is out", x.whole(), NONE);
    }

    // ---- frees, lost

    private static void freesOfSeveralTheLeast() {
        LogLetters x = steady("FREES: of several the least", 0);
        for (int i = 0; i < 12; i++) {
            logAt(x, SUNK, 0, i);
        }
        for (int out = 0; out < 12; out++) {
            d.due("frees(40, 0)", x.frees(40, 0), out);
            d.due("frees(40, 1)", x.frees(40, 1), 0);
            x.lays(out, 13);
        }
        d.due("none is on THE RIVER", x.frees(40, 0), NONE);
    }

    private static void freesTheOneInTheWay() {
        for (int way = 0; way < 12; way++) {
            LogLetters x = steady("FREES: most have COME", 12);
            for (int i = 0; i < 12; i++) {
                logAt(x, i == way ? SUNK : LOG, 0, i == way ? 9 : 2);
            }
            x.reach(9, 0, 1);
            d.due("the LOG", x.frees(1, 0), way);
            d.due("how many have COME", x.frees(1, 1), 11);
        }
    }

    private static void freesIsOutItself() {
        LogLetters x = steady("FREES: without it, it has not COME itself", 12);
        logAt(x, LOG, 0, 11);
        d.due("frees(1, 0)", x.frees(1, 0), 0);
        d.due("frees(1, 1)", x.frees(1, 1), 0);
        logAt(x, LOG, 0, 11);
        d.due("frees(1, 0)", x.frees(1, 0), 0);
        d.due("frees(1, 1)", x.frees(1, 1), 1);
        d.due("not SAWN", x.river(2), 0);
        d.due("both are on THE RIVER", x.river(4), 3);
    }

    private static void freesNoneOnTheRiver() {
        LogLetters x = come("FREES: NONE: none is on THE RIVER", 0, 1);
        logAt(x, LOG, 0, 13);
        d.due("frees(1, 0)", x.frees(1, 0), NONE);
        d.due("frees(1, 1)", x.frees(1, 1), NONE);
        x.lays(2, 0);
        d.due("frees(1, 0)", x.frees(1, 0), 2);
        d.due("those that have COME count", x.frees(1, 1), 2);
    }

    private static void lostIfNotLess() {
        LogLetters x = steady("LOST: without SPELT being less than as it is", 12);
        logAt(x, LOG, 0, 0);
        logAt(x, LOG, 0, 0);
        logAt(x, LOG, 1, 0);
        logAt(x, SUNK, 2, 0);
        d.due("no WORD: 0 is not less than 0", x.lost(1), 15);
        x.word(0);
        d.due("one of both does", x.lost(1), 15);
        x.word(0);
        d.due("both are needed", x.lost(1), 12);
        x.word(1);
        d.due("three are needed", x.lost(1), 8);
        x.word(2);
        d.due("one that never comes is not", x.lost(40), 8);
        x.reach(9, 0, 1);
        x.lays(3, 9);
        d.due("without the one in the way it is more", x.lost(40), 15);
    }

    private static void lostOnlyOnTheRiver() {
        LogLetters x = come("LOST: LOGS on THE RIVER", 0, 1);
        d.due("both have COME", x.lost(1), 0);
        logAt(x, LOG, 0, 13);
        logAt(x, LOG, 0, 3);
        d.due("one is out, one is there", x.lost(1), 8);
        d.due("no LOGS", fresh("LOST of no LOGS").lost(1), 0);
    }

    private static void lostOfTwelve() {
        LogLetters x = fresh("LOST: a set of twelve");
        for (int i = 0; i < 12; i++) {
            logAt(x, SUNK, 0, i);
        }
        d.due("lost(1)", x.lost(1), 4095);
        d.due("river(4)", x.river(4), 4095);
        x.lays(11, 13);
        d.due("lost(1)", x.lost(1), 2047);
        d.due("river(4)", x.river(4), 2047);
        x.lays(11, 0);
        x.lays(0, 13);
        d.due("lost(1)", x.lost(1), 4094);
        d.due("river(4)", x.river(4), 4094);
    }

    // ---- wider, opened

    private static void widerOfSeveralTheLeast() {
        LogLetters x = fresh("WIDER: of several the least");
        d.due("no LOGS", x.wider(1, 0), 0);
        d.due("no LOGS", x.wider(1, 1), 0);
        for (int full = 1; full <= 11; full++) {
            x = steady("WIDER: the reach that holds up most", 12);
            x.reach(full, 0, 1);
            logAt(x, SUNK, 0, full);
            logAt(x, LOG, 0, 0);
            logAt(x, LOG, 0, 0);
            d.due("the reach", x.wider(1, 0), full);
            d.due("how many have COME", x.wider(1, 1), 2);
            d.due("ROOM is as it was", x.reach(full, 0, 1), 1);
        }
        x = steady("WIDER: one of two full reaches does not help", 12);
        x.reach(4, 0, 1);
        x.reach(8, 0, 1);
        logAt(x, SUNK, 0, 4);
        logAt(x, SUNK, 0, 8);
        logAt(x, LOG, 0, 0);
        d.due("of several the least", x.wider(40, 0), 0);
        d.due("none", x.wider(40, 1), 0);
    }

    private static void widerByTwo() {
        for (int room = 1; room <= 10; room++) {
            LogLetters x = steady("WIDER: ROOM 2 more", 1);
            x.reach(11, 0, room);
            for (int i = 0; i < 12; i++) {
                logAt(x, LOG, 0, 10);
            }
            d.due("the reach", x.wider(2, 0), 11);
            d.due("how many have COME", x.wider(2, 1), room + 2);
        }
    }

    private static void widerBeyondTwelve() {
        LogLetters x = steady("WIDER: ROOM 2 more than 12", 1);
        x.reach(11, 0, 12);
        for (int i = 0; i < 12; i++) {
            logAt(x, LOG, 0, 10);
        }
        d.due("the reach", x.wider(2, 0), 0);
        d.due("how many have COME", x.wider(2, 1), 12);
    }

    private static void openedMoreOrFewer() {
        LogLetters x = steady("OPENED: how many more", 12);
        logAt(x, LOG, 0, 0);
        logAt(x, LOG, 0, 5);
        logAt(x, LOG, 0, 11);
        d.due("no BOOM", x.opened(1), 0);
        int[][] booms = {{3, 1}, {4, 1}, {5, 2}, {10, 2}, {11, 3}};
        for (int[] b : booms) {
            x.reach(b[0], 1, 1);
            d.due("all down to " + b[0], x.opened(1), b[1]);
            d.due("all down to " + b[0], x.opened(60), b[1]);
        }
        x = fresh("OPENED: how many fewer");
        Due.text(x, "drift (m=1)+(m=2)*(r=0)*10");
        logAt(x, LOG, 0, 5);
        x.log(LOG, 0, 2);
        x.reach(10, 0, 1);
        x.reach(0, 1, 1);
        d.due("before it would come", x.opened(6), 0);
        d.due("without a BOOM the other one is in its way", x.opened(7), -1);
        d.due("without a BOOM the other one is in its way", x.opened(60), -1);
        d.due("the BOOM is still there", x.reach(0, 1, 1), 1);
    }

    // ---- rolled, looked

    private static void rolledTheLatest() {
        for (int drift : new int[] {1, 3, 6, 11, 12}) {
            LogLetters x = steady("ROLLED: the latest k (0 .. n less 1)", drift);
            logAt(x, LOG, 0, 13);
            int needs = (11 + drift) / drift;
            for (int n = 1; n <= 40; n++) {
                d.due("drift " + drift + ", n " + n, x.rolled(0, n), n < needs ? NONE : n - needs);
            }
            x.lays(0, 0);
            d.due("it is not out", x.rolled(0, 40), NO);
        }
    }

    /** Only one that is laid in right ahead of a week without a flood comes; the others stick in reach 5. */
    private static void rolledNotLaterNotSooner() {
        for (int seed = 0; seed < 30; seed++) {
            LogLetters x = fresh("ROLLED: the latest, where neither all sooner nor all later ones come");
            Due.text(x, "drift (r=0)*((f=0)*12+(f>0)*5)");
            logAt(x, LOG, 0, 13);
            x.seed(seed);
            int latest = NONE;
            int z = seed;
            for (int n = 1; n <= 40; n++) {
                z = Due.nextZ(z);
                latest = Lots.given(z) % 10 == 0 ? n - 1 : latest;
                d.due("n " + n, x.rolled(0, n), latest);
            }
        }
    }

    private static void rolledWhateverTheRoom() {
        LogLetters x = steady("ROLLED: laid into reach 0, whatever its ROOM", 12);
        x.reach(0, 0, 1);
        for (int i = 0; i < 11; i++) {
            logAt(x, SUNK, 0, 0);
        }
        logAt(x, LOG, 0, 13);
        d.due("rolled(11, 1)", x.rolled(11, 1), 0);
        d.due("rolled(11, 40)", x.rolled(11, 40), 39);
        x.reach(1, 0, 1);
        x.lays(3, 1);
        d.due("reach 1 is full", x.rolled(11, 40), NONE);
        x.lays(3, 0);
        x.reach(0, 1, 1);
        d.due("a BOOM in reach 0", x.rolled(11, 40), NONE);
    }

    private static LogLetters lookedBy(LogLetters x, int sort, int... places) {
        x.sheet(0, sort, places.length);
        for (int k = 0; k < places.length; k++) {
            x.mark(0, k, places[k]);
        }
        return x;
    }

    private static void lookedMasses() {
        for (int mass = 1; mass <= 50; mass++) {
            LogLetters x = fresh("LOOKED: the MASS 1, 6, .. 46");
            Due.text(x, "drift (m=" + mass + ")*3");
            logAt(x, LOG, 0, 0);
            lookedBy(x, 0, 0, 3);
            boolean tried = mass % 5 == 1;
            d.due("the MASS of " + mass, x.looked(0, 0, 0), tried ? mass : 1);
            d.due("the differences of " + mass, x.looked(0, 0, 1), tried ? 0 : 3);
            d.due("its own MASS is as it was", x.told(0, 2), 1);
        }
    }

    private static void lookedOfSeveralTheLeast() {
        for (int from = 1; from <= 46; from += 5) {
            LogLetters x = fresh("LOOKED: of several the least");
            Due.text(x, "drift m>" + (from - 1));
            logAt(x, LOG, 0, 0);
            lookedBy(x, 0, 0, 1, 2);
            d.due("from " + from + " on", x.looked(0, 0, 0), from);
            d.due("the differences", x.looked(0, 0, 1), 0);
        }
        LogLetters x = fresh("LOOKED: all are as good");
        logAt(x, SUNK, 0, 0);
        d.due("the MASS", lookedBy(x, 0, 5, 5).looked(0, 0, 0), 1);
        d.due("the differences", x.looked(0, 0, 1), 10);
        d.due("no places: the MASS", lookedBy(x, 0).looked(0, 0, 0), 1);
        d.due("no places: the differences", x.looked(0, 0, 1), 0);
    }

    private static void lookedFromNowOn() {
        LogLetters x = steady("LOOKED: k from 0 on", 1);
        logAt(x, LOG, 0, 4);
        d.due("place 0 is now", lookedBy(x, 0, 4).looked(0, 0, 1), 0);
        d.due("place 0 is now", lookedBy(x, 0, 5).looked(0, 0, 1), 1);
        int[] places = new int[24];
        for (int k = 0; k < 24; k++) {
            places[k] = Math.min(12, 4 + k);
        }
        d.due("all of 24 places", lookedBy(x, 0, places).looked(0, 0, 1), 0);
        places[23] = 19;
        d.due("the last of 24 places", lookedBy(x, 0, places).looked(0, 0, 1), 7);
    }

    private static void lookedSignsLeftOut() {
        LogLetters x = fresh("LOOKED: differences, signs left out");
        logAt(x, SUNK, 0, 5);
        d.due("above and below", lookedBy(x, 0, 3, 7).looked(0, 0, 1), 4);
        d.due("below", lookedBy(x, 0, 3, 3).looked(0, 0, 1), 4);
        d.due("shorts, far off", lookedBy(x, 0, -32768, 32767).looked(0, 0, 1), 65535);
        d.due("floats, far off", lookedBy(x, 1, -99999, 99999).looked(0, 0, 1), 199998);
        int[] places = new int[24];
        java.util.Arrays.fill(places, -99999);
        d.due("24 of the farthest", lookedBy(x, 1, places).looked(0, 0, 1), 24 * 100004);
    }

    private static void lookedNoNumber() {
        LogLetters x = steady("LOOKED: places that are numbers", 1);
        logAt(x, LOG, 0, 0);
        d.due("the WEEK goes by all the same", lookedBy(x, 1, NONE, NONE, 2).looked(0, 0, 1), 0);
        d.due("no numbers at all", lookedBy(x, 1, NONE, NONE, NONE).looked(0, 0, 1), 0);
        d.due("no numbers at all", x.looked(0, 0, 0), 1);
        d.due("numbers ahead and behind", lookedBy(x, 1, 1, NONE, 4).looked(0, 0, 1), 3);
    }

    private static void lookedOfTheGone() {
        LogLetters x = come("LOOKED of one that has COME, or is out", 0);
        logAt(x, LOG, 0, 13);
        d.due("it has COME", lookedBy(x, 0, 12, 12).looked(0, 0, 1), 0);
        d.due("it is out", lookedBy(x, 0, 13, 13).looked(0, 1, 1), 0);
        d.due("it is out", lookedBy(x, 0, 12, 14).looked(0, 1, 1), 2);
    }
}
