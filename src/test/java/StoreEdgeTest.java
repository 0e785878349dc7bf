/** Terms, part 5: SHEETS, SLOTS, the numbers that wait, AN IMAGE and THE WEEKS TOLD, at the ends. */
public final class StoreEdgeTest {
    private static final int BAD = -1000000001, NO = -1000000002, FULL = -1000000003, NONE = -1000000005,
        NOTHING = -1000000011, KIND = -1000000012, INDEX = -1000000013, SIZE = -1000000014;
    private static final int LOG = 0, SPLIT = 2, SUNK = 5;
    private static final Due d = new Due();

    public static void main(String[] args) {
        sheetsMissingAtFirst();
        placesAtMost();
        shortsAndFloats();
        noNumberOnlyInFloats();
        slotsHoldNothingAtFirst();
        slotHoldsALogForGood();
        slotHoldsALogBehindTheImage();
        slotHoldsARowOfItsOwn();
        slotHoldsANumber();
        findingsOfSheets();
        findingsOfSlots();
        noImageAtFirst();
        imageKeepsAll();
        imageKeepsNotSheetsSlotsWaitingTape();
        imageAgainAndAgain();
        imageOfTheLatestKeep();
        imageOfTexts();
        imageOfNothing();
        imageInItsLastWeek();
        waitingAtMost();
        weeksToldOfTheImage();
        weeksToldOneBehindTheOther();
        weeksToldFirstThatIsNot();
        weeksToldOfThirty();
        weeksToldUpToTheLastWeek();
        d.end();
    }

    private static LogLetters fresh(String about) {
        d.about("terms 5: " + about);
        return new LogLetters();
    }

    private static LogLetters steady(String about, int drift) {
        LogLetters x = fresh(about);
        d.due("text", Due.text(x, "drift " + drift), 0);
        return x;
    }

    private static int logAt(LogLetters x, int kind, int reach) {
        int log = x.log(kind, 0, 1);
        x.lays(log, reach);
        return log;
    }

    // ---- sheets

    private static void sheetsMissingAtFirst() {
        LogLetters x = fresh("SHEETS 0 .. 3 are MISSING at first");
        x.log(LOG, 0, 1);
        for (int sheet = -1; sheet <= 4; sheet++) {
            int due = sheet < 0 || sheet > 3 ? BAD : NOTHING;
            d.due("mark", x.mark(sheet, 0, 0), due);
            d.due("pour", x.pour(sheet), due);
            d.due("reads", x.reads(sheet), due);
            d.due("looked", x.looked(sheet, 0, 0), due);
            d.due("copy", x.copy(sheet, 0, sheet, 0, 0), due);
            d.due("lay", x.lay(0, 2, sheet), due);
        }
        for (int sheet = 0; sheet < 4; sheet++) {
            d.due("sheet(" + sheet + ", 0, 1)", x.sheet(sheet, 0, 1), 1);
            d.due("mark", x.mark(sheet, 0, sheet), 1);
            for (int other = sheet + 1; other < 4; other++) {
                d.due("others are MISSING still", x.reads(other), NOTHING);
            }
        }
        d.due("sheet(2, -1, 7)", x.sheet(2, -1, 7), 0);
        d.due("MISSING again", x.reads(2), NOTHING);
    }

    private static void placesAtMost() {
        for (int sort = 0; sort <= 1; sort++) {
            for (int n = 0; n <= 24; n++) {
                LogLetters x = fresh("0 to 24 places, all 0");
                d.due("sheet(1, " + sort + ", " + n + ")", x.sheet(1, sort, n), n);
                d.due("lay(0, 2, 1)", x.lay(0, 2, 1), 0);
                for (int place = 0; place < n; place++) {
                    d.due("place " + place + " of " + n, x.item(0, place), 0);
                }
                d.due("behind the last of " + n, x.item(0, n), INDEX);
                d.due("ahead of the first of " + n, x.item(0, -1), INDEX);
                d.due("mark behind the last of " + n, x.mark(1, n, 0), INDEX);
                d.due("mark the last of " + n, x.mark(1, n - 1, 0), n == 0 ? INDEX : 1);
            }
            LogLetters x = fresh("neither fewer than 0 nor more than 24 places");
            d.due("25 places", x.sheet(1, sort, 25), BAD);
            d.due("-1 places", x.sheet(1, sort, -1), SIZE);
            d.due("MISSING still", x.reads(1), NOTHING);
        }
    }

    private static void shortsAndFloats() {
        LogLetters x = fresh("rows of shorts or floats");
        x.sheet(0, 0, 1);
        x.sheet(1, 1, 1);
        int[][] values = {{0, 0, 0}, {32767, 32767, 32767}, {32768, -32768, 32768}, {-32768, -32768, -32768}, {-32769, 32767, -32769},
            {65536, 0, 65536}, {99999, -31073, 99999}, {-99999, 31073, -99999}};
        for (int[] v : values) {
            d.due("mark", x.mark(0, 0, v[0]), 1);
            d.due("mark", x.mark(1, 0, v[0]), 1);
            x.lay(0, 2, 0);
            x.lay(1, 2, 1);
            d.due(v[0] + " as a short", x.item(0, 0), v[1]);
            d.due(v[0] + " as a float", x.item(1, 0), v[2]);
        }
    }

    private static void noNumberOnlyInFloats() {
        LogLetters x = fresh("a place of floats may be NO NUMBER");
        x.sheet(0, 0, 2);
        x.sheet(1, 1, 2);
        d.due("of shorts", x.mark(0, 1, NONE), KIND);
        d.due("of floats", x.mark(1, 1, NONE), 1);
        x.lay(0, 2, 1);
        d.due("a number", x.item(0, 0), 0);
        d.due("NO NUMBER", x.item(0, 1), KIND);
        d.due("copied", x.copy(1, 1, 1, 0, 1), 1);
        x.lay(0, 2, 1);
        d.due("NO NUMBER, copied", x.item(0, 0), KIND);
        d.due("a number again", x.mark(1, 0, 0), 1);
        x.lay(0, 2, 1);
        d.due("a number again", x.item(0, 0), 0);
        d.due("none of a new row", x.sheet(1, 1, 2), 2);
        x.lay(0, 2, 1);
        d.due("all 0", x.item(0, 1), 0);
    }

    // ---- slots

    private static void slotsHoldNothingAtFirst() {
        LogLetters x = fresh("SLOTS 0 .. 4 each hold nothing at first");
        for (int slot = -1; slot <= 5; slot++) {
            boolean is = slot >= 0 && slot <= 4;
            d.due("ask", x.ask(slot, 0), is ? NOTHING : BAD);
            d.due("item", x.item(slot, 0), is ? NOTHING : BAD);
            d.due("rest", x.rest(slot, 1), is ? NOTHING : BAD);
            d.due("lay", x.lay(slot, 3, slot), is ? 0 : BAD);
        }
        for (int slot = 0; slot < 5; slot++) {
            d.due("each its own", x.rest(slot, 100), slot);
        }
        d.due("lay(2, 0, 0)", x.lay(2, 0, 0), 3);
        d.due("nothing again", x.rest(2, 100), NOTHING);
    }

    private static void slotHoldsALogForGood() {
        LogLetters x = fresh("a LOG as it is then, for good");
        x.log(SPLIT, 0, 9);
        x.lay(0, 1, 0);
        x.turns(0, SUNK);
        x.set(0, 2, 50);
        x.lays(0, 13);
        x.lay(1, 1, 0);
        d.due("as it was then", x.ask(0, SPLIT), 90);
        d.due("as it was then", x.ask(0, SUNK), KIND);
        d.due("as it is", x.ask(1, SUNK), 1);
        d.due("as it is", x.ask(1, SPLIT), KIND);
        d.due("it held a LOG", x.lay(0, 1, 0), 1);
        d.due("laid again", x.ask(0, SUNK), 1);
    }

    private static void slotHoldsALogBehindTheImage() {
        LogLetters x = fresh("a LOG for good, though THE IMAGE has none");
        x.keep();
        x.log(SPLIT, 0, 9);
        x.lay(4, 1, 0);
        d.due("back()", x.back(), 0);
        d.due("no LOGS", x.count(0), 0);
        d.due("ask", x.ask(4, LOG), 90);
        d.due("another LOG with its number", x.log(SUNK, 0, 1), 0);
        d.due("ask", x.ask(4, SPLIT), 90);
    }

    private static void slotHoldsARowOfItsOwn() {
        LogLetters x = fresh("a SHEET: a row of its own, as it was then");
        x.sheet(3, 1, 3);
        x.mark(3, 0, 5);
        x.mark(3, 2, NONE);
        x.lay(0, 2, 3);
        x.mark(3, 0, 6);
        x.mark(3, 2, 7);
        x.lay(1, 2, 3);
        x.sheet(3, 0, 1);
        x.lay(2, 2, 3);
        x.sheet(3, -1, 0);
        int[][] dues = {{5, 0, KIND, INDEX}, {6, 0, 7, INDEX}, {0, INDEX, INDEX, INDEX}};
        for (int slot = 0; slot < 3; slot++) {
            for (int place = 0; place < 4; place++) {
                d.due("SLOT " + slot + ", place " + place, x.item(slot, place), dues[slot][place]);
            }
        }
        d.due("it held a SHEET", x.lay(0, 0, 0), 2);
        d.due("the others stay", x.item(1, 0), 6);
    }

    private static void slotHoldsANumber() {
        LogLetters x = fresh("a number");
        int[][] dues = {{7, 3, 1}, {-7, 3, -1}, {7, -3, 1}, {-7, -3, -1}, {6, 3, 0}, {2, 3, 2}, {Integer.MIN_VALUE, -1, 0},
            {Integer.MIN_VALUE, Integer.MIN_VALUE, 0}, {Integer.MIN_VALUE, Integer.MAX_VALUE, -1},
            {Integer.MAX_VALUE, Integer.MIN_VALUE, Integer.MAX_VALUE}, {0, 5, 0}, {NONE, 10, -5}, {NOTHING, 10, -1}};
        for (int[] due : dues) {
            x.lay(0, 3, due[0]);
            d.due("the rest of " + due[0] + " by " + due[1], x.rest(0, due[1]), due[2]);
            d.due("by 0", x.rest(0, 0), NO);
        }
    }

    // ---- findings

    private static void findingsOfSheets() {
        LogLetters x = fresh("of several FINDINGS the one that stands first");
        x.sheet(0, 0, 2);
        x.sheet(1, 1, 2);
        d.due("BAD, then NOTHING", x.mark(4, 9, NONE), BAD);
        d.due("NOTHING, then INDEX", x.mark(2, 9, NONE), NOTHING);
        d.due("INDEX, then KIND", x.mark(0, 2, NONE), INDEX);
        d.due("KIND", x.mark(0, 1, NONE), KIND);
        d.due("INDEX, then BAD: v", x.mark(1, 2, 100000), INDEX);
        d.due("BAD: v", x.mark(1, 1, 100000), BAD);
        d.due("BAD, then SIZE", x.sheet(4, 0, -1), BAD);
        d.due("BAD: sort, then SIZE", x.sheet(0, 2, -1), BAD);
        d.due("SIZE", x.sheet(0, 1, -1), SIZE);
        d.due("copy: BAD, then NOTHING", x.copy(2, 9, 4, 9, 9), BAD);
        d.due("copy: BAD, then NOTHING", x.copy(4, 9, 2, 9, 9), BAD);
        d.due("copy: NOTHING, then INDEX", x.copy(2, 9, 0, 9, 9), NOTHING);
        d.due("copy: NOTHING, then INDEX", x.copy(0, 9, 2, 9, 9), NOTHING);
        d.due("copy: KIND, then INDEX", x.copy(0, 9, 1, 9, 9), KIND);
        d.due("copy: INDEX", x.copy(0, 1, 0, 0, 2), INDEX);
        d.due("nothing is otherwise", x.copy(0, 0, 0, 0, 2), 2);
        d.due("looked: BAD, then NOTHING", x.looked(2, 0, 0), BAD);
        x.log(LOG, 0, 1);
        d.due("looked: BAD: what, then NOTHING", x.looked(2, 0, 2), BAD);
        d.due("looked: NOTHING", x.looked(2, 0, 1), NOTHING);
    }

    private static void findingsOfSlots() {
        LogLetters x = fresh("of several FINDINGS of a SLOT the one that stands first");
        x.log(LOG, 0, 1);
        x.sheet(0, 1, 1);
        x.mark(0, 0, NONE);
        x.lay(0, 1, 0);
        x.lay(1, 2, 0);
        x.lay(2, 3, 0);
        int[][] asks = {{0, 0, 1}, {0, 1, KIND}, {0, 6, BAD}, {1, 0, KIND}, {1, 6, BAD}, {2, 0, KIND}, {3, 0, NOTHING}, {3, 6, BAD}, {5, 0, BAD}};
        for (int[] a : asks) {
            d.due("ask(" + a[0] + ", " + a[1] + ")", x.ask(a[0], a[1]), a[2]);
        }
        int[][] items = {{0, 0, KIND}, {0, 9, KIND}, {1, 0, KIND}, {1, 1, INDEX}, {1, -1, INDEX}, {2, 0, KIND}, {3, 9, NOTHING}, {5, 9, BAD}};
        for (int[] i : items) {
            d.due("item(" + i[0] + ", " + i[1] + ")", x.item(i[0], i[1]), i[2]);
        }
        int[][] rests = {{0, 0, KIND}, {1, 0, KIND}, {2, 0, NO}, {2, 1, 0}, {3, 0, NOTHING}, {5, 0, BAD}};
        for (int[] r : rests) {
            d.due("rest(" + r[0] + ", " + r[1] + ")", x.rest(r[0], r[1]), r[2]);
        }
        d.due("lay: BAD: slot, then NOTHING", x.lay(5, 2, 1), BAD);
        d.due("lay: NOTHING", x.lay(2, 2, 1), NOTHING);
        d.due("it holds what it held", x.rest(2, 7), 0);
    }

    // ---- images

    private static void noImageAtFirst() {
        LogLetters x = fresh("there is no IMAGE at first");
        d.due("back()", x.back(), NO);
        d.due("check(1)", x.check(1), NO);
        d.due("check(0)", x.check(0), BAD);
        d.due("keep()", x.keep(), 0);
        d.due("back()", x.back(), 0);
        d.due("check(1)", x.check(1), 1);
    }

    /** Everything that an image keeps, each thing other than at first. */
    private static void furnish(LogLetters x, int by) {
        Due.text(x, "drift " + (by + 11));
        Due.text(x, "fee s*10+" + by);
        logAt(x, LOG, 11);
        x.weeks(1);
        x.rule(1, 100);
        for (int i = 0; i < by + 1; i++) {
            logAt(x, SUNK, i);
            x.set(i, 1, 10 + by);
            x.set(i, 2, 20 + by);
        }
        int log = x.log(LOG, 4, 30 + by);
        x.reach(0, 1, 1);
        for (int tries = 0; tries < 60 && x.told(log, 3) != 13; tries++) {
            x.weeks(1);
        }
        x.word(by);
        x.word(by + 1);
        x.rule(0, by + 1);
        x.rule(1, by + 40);
        x.rule(2, by + 6);
        x.reach(3, 0, by + 6);
        x.reach(8, 1, 1);
        x.seed(by + 1000);
    }

    private static void imageKeepsAll() {
        d.about("terms 5: AN IMAGE keeps all, and all can become as it is");
        LogLetters x = new LogLetters();
        furnish(x, 1);
        int[] was = seen(x);
        d.due("keep()", x.keep(), x.count(0));
        furnish(x, 2);
        d.due("some of it is otherwise", apart(was, seen(x)) > 20 ? 1 : 0, 1);
        d.due("back()", x.back(), was[0]);
        d.due("what is otherwise", apart(was, seen(x)), 0);
        d.due("ROOM of 3", x.reach(3, 0, 7), 7);
        d.due("BOOM of 0", x.reach(0, 1, 1), 1);
        d.due("BOOM of 8", x.reach(8, 1, 1), 1);
        d.due("BOOM of 7", x.reach(7, 1, 0), 0);
    }

    private static int[] seen(LogLetters x) {
        int[] seen = new int[120];
        int at = 0;
        for (int what = 0; what < 10; what++) {
            // what waits and the tape are no part of it
            seen[at++] = what == 7 || what == 8 ? 0 : x.count(what);
        }
        for (int log = 0; log < 10; log++) {
            for (int what = 0; what < 8; what++) {
                seen[at++] = x.told(log, what);
            }
        }
        for (int k = -1; k < 4; k++) {
            seen[at++] = x.read(k);
        }
        for (int what = 0; what < 5; what++) {
            seen[at++] = x.river(what);
        }
        for (int key = 0; key < 3; key++) {
            seen[at++] = x.why(key);
        }
        seen[at++] = x.fee();
        seen[at++] = x.fine(0);
        seen[at++] = x.behind(9, 0);
        seen[at++] = x.behind(9, 1);
        return seen;
    }

    private static int apart(int[] one, int[] other) {
        int apart = 0;
        for (int i = 0; i < one.length; i++) {
            apart += one[i] == other[i] ? 0 : 1;
        }
        return apart;
    }

    private static void imageKeepsNotSheetsSlotsWaitingTape() {
        LogLetters x = fresh("AN IMAGE keeps all but SHEETS, SLOTS, numbers that wait, THE TAPE");
        x.sheet(0, 0, 2);
        x.lay(0, 3, 5);
        x.tell(1);
        x.feed(0, 0, 0);
        x.keep();
        x.sheet(0, 1, 3);
        x.mark(0, 2, 9);
        x.sheet(1, 0, 1);
        x.lay(0, 3, 6);
        x.lay(1, 2, 0);
        x.tell(2);
        x.tell(3);
        x.trim(5);
        d.due("back()", x.back(), 0);
        x.lay(2, 2, 0);
        d.due("a SHEET", x.item(2, 2), 9);
        d.due("a SHEET that was MISSING", x.lay(2, 2, 1), 2);
        d.due("a SLOT", x.rest(0, 100), 6);
        d.due("a SLOT that held nothing", x.item(1, 2), 9);
        d.due("numbers that wait", x.count(7), 3);
        d.due("bytes of THE TAPE", x.count(8), 5);
    }

    private static void imageAgainAndAgain() {
        LogLetters x = steady("all can become as THE IMAGE (again and again)", 12);
        logAt(x, LOG, 0);
        x.keep();
        for (int i = 0; i < 20; i++) {
            d.due("weeks(1)", x.weeks(1), 1);
            d.due("it has COME", x.lays(0, 0), NO);
            d.due("log", x.log(LOG, 0, 1), 1);
            x.seed(i);
            d.due("back()", x.back(), 1);
            d.due("REACH", x.told(0, 3), 0);
            d.due("CAME", x.told(0, 4), 0);
            d.due("z", x.count(9), 1);
            d.due("told(1, 0)", x.told(1, 0), BAD);
        }
        d.due("back() right behind back()", x.back(), 1);
    }

    private static void imageOfTheLatestKeep() {
        LogLetters x = fresh("THE IMAGE is the one that was kept last");
        for (int logs = 0; logs <= 12; logs++) {
            x.seed(100 + logs);
            d.due("keep()", x.keep(), logs);
            x.seed(-1);
            d.due("back()", x.back(), logs);
            d.due("z", x.count(9), 100 + logs);
            d.due("log", x.log(LOG, 0, 1), logs == 12 ? FULL : logs);
        }
    }

    private static void imageOfTexts() {
        LogLetters x = fresh("AN IMAGE keeps TEXTS");
        Due.text(x, "fee 1");
        x.keep();
        for (int number = 1; number < 14; number++) {
            d.due("text", Due.text(x, "fee " + (number + 1)), number);
        }
        d.due("text", Due.text(x, "fee 99"), FULL);
        d.due("back()", x.back(), 0);
        d.due("how many", x.count(6), 1);
        d.due("fee()", x.fee(), 1);
        d.due("textTold(1, 0)", x.textTold(1, 0), BAD);
        d.due("why(1)", x.why(1), 0);
        d.due("text", Due.text(x, "fine 7"), 1);
        d.due("textTold(1, 0)", x.textTold(1, 0), 2);
        d.due("fee()", x.fee(), 1);
    }

    private static void imageOfNothing() {
        LogLetters x = fresh("AN IMAGE of an object in which there is nothing");
        d.due("keep()", x.keep(), 0);
        x.deal(12);
        x.weeks(60);
        x.word(1);
        d.due("back()", x.back(), 0);
        int[] counts = {0, 0, 3, 0, 0, 0, 0, 0, 0, 1};
        for (int what = 0; what < counts.length; what++) {
            d.due("count(" + what + ")", x.count(what), counts[what]);
        }
        d.due("read(-1)", x.read(-1), 0);
        d.due("log", x.log(LOG, 0, 1), 0);
    }

    private static void imageInItsLastWeek() {
        LogLetters x = steady("AN IMAGE keeps THE WEEK", 0);
        x.keep();
        for (int i = 0; i < 167; i++) {
            x.weeks(60);
        }
        d.due("THE WEEK", x.count(1), 9999);
        x.back();
        d.due("THE WEEK", x.count(1), 0);
        x.weeks(1);
        d.due("THE WEEK", x.count(1), 1);
    }

    // ---- the weeks told

    private static void waitingAtMost() {
        LogLetters x = fresh("60 numbers wait at most");
        for (int many = 1; many <= 60; many++) {
            d.due("tell", x.tell(many), many);
        }
        d.due("the sixty-first", x.tell(61), FULL);
        d.due("how many", x.count(7), 60);
        d.due("check(1), no IMAGE", x.check(1), NO);
        d.due("none do then", x.count(7), 0);
        d.due("tell", x.tell(1), 1);
        d.due("check(0)", x.check(0), BAD);
        d.due("none do then", x.count(7), 0);
    }

    private static int check(LogLetters x, int n, int... told) {
        for (int v : told) {
            x.tell(v);
        }
        int answer = x.check(n);
        d.due("none waits then", x.count(7), 0);
        return answer;
    }

    private static void weeksToldOfTheImage() {
        LogLetters x = steady("THE WEEKS TOLD are by THE IMAGE", 5);
        logAt(x, LOG, 0);
        logAt(x, SUNK, 3);
        logAt(x, LOG, 13);
        x.keep();
        x.weeks(60);
        x.deal(9);
        d.due("check(3)", check(x, 3, 0, 21, 0, 26, 1, 28), 0);
        d.due("THE WEEK is as it was", x.count(1), 60);
        d.due("LOGS are as they were", x.count(0), 12);
        x.back();
        d.due("check(3), again", check(x, 3, 0, 21, 0, 26, 1, 28), 0);
        d.due("THE WEEK is as it was", x.count(1), 0);
    }

    private static void weeksToldOneBehindTheOther() {
        LogLetters x = steady("behind each WEEK: how many have COME by then, REACHES of all together", 1);
        logAt(x, LOG, 11);
        logAt(x, LOG, 10);
        logAt(x, LOG, 9);
        logAt(x, LOG, 13);
        x.keep();
        d.due("check(4)", check(x, 4, 1, 46, 2, 48, 3, 49, 3, 49), 0);
        d.due("not those of that WEEK alone", check(x, 2, 1, 46, 1, 48), 3);
        d.due("not without one that is out", check(x, 2, 1, 33, 2, 48), 2);
    }

    private static void weeksToldFirstThatIsNot() {
        LogLetters x = steady("1 and how many stand right ahead of the first that is not", 1);
        logAt(x, LOG, 0);
        x.keep();
        int[] told = {0, 1, 0, 2, 0, 3};
        d.due("all are", check(x, 3, told), 0);
        for (int i = 0; i < 6; i++) {
            int[] other = told.clone();
            other[i]++;
            d.due("not the one at " + i, check(x, 3, other), 1 + i);
            d.due("missing from " + i + " on", check(x, 3, java.util.Arrays.copyOf(told, i)), 1 + i);
        }
        d.due("one too many", check(x, 3, 0, 1, 0, 2, 0, 3, 0), 7);
        d.due("two too many", check(x, 3, 0, 1, 0, 2, 0, 3, 0, 4), 7);
        d.due("right for one WEEK more", check(x, 4, 0, 1, 0, 2, 0, 3, 0, 4), 0);
        d.due("one that is not ahead of one too many", check(x, 3, 0, 1, 9, 2, 0, 3, 0), 3);
        d.due("none waits", check(x, 1), 1);
    }

    private static void weeksToldOfThirty() {
        LogLetters x = steady("n (1 .. 30)", 0);
        logAt(x, LOG, 9);
        x.keep();
        int[] told = new int[60];
        for (int i = 1; i < 60; i += 2) {
            told[i] = 9;
        }
        d.due("check(30)", check(x, 30, told), 0);
        d.due("check(29)", check(x, 29, told), 59);
        d.due("check(1)", check(x, 1, told), 3);
        d.due("check(31)", check(x, 31, told), BAD);
        d.due("check(0)", check(x, 0), BAD);
        told[59] = 8;
        d.due("the sixtieth is not", check(x, 30, told), 60);
        d.due("the sixtieth is missing", check(x, 30, java.util.Arrays.copyOf(told, 59)), 60);
    }

    private static void weeksToldUpToTheLastWeek() {
        int[][] weeks = {{9968, 30}, {9969, 30}, {9970, 29}, {9971, 28}, {9997, 2}, {9998, 1}, {9999, 0}};
        for (int[] w : weeks) {
            LogLetters x = steady("fewer, if THE WEEK would be above 9999", 0);
            for (int done = 0; done < w[0]; done += 60) {
                x.weeks(Math.min(60, w[0] - done));
            }
            d.due("THE WEEK", x.count(1), w[0]);
            x.keep();
            int[] none = new int[2 * w[1]];
            d.due("check(30) in " + w[0], check(x, 30, none), 0);
            if (w[1] > 0) {
                d.due("one is missing", check(x, 30, java.util.Arrays.copyOf(none, 2 * w[1] - 1)), 2 * w[1]);
            }
            if (w[1] < 30) {
                d.due("one too many", check(x, 30, new int[2 * w[1] + 1]), 2 * w[1] + 1);
                d.due("one too many of as many WEEKS", check(x, w[1] + 1, new int[2 * w[1] + 1]), 2 * w[1] + 1);
            }
        }
    }
}
