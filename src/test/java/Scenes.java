/** Runs of calls behind which tests begin: objects in which there is something of each thing, or all of it. */
final class Scenes {
    private static final int NONE = -1000000005;

    private Scenes() { }

    static void bare(LogLetters x) {
        x.count(0);
    }

    /**
     * Nine logs: 0 is sawn, 1 to 3 have come (letters 3, 4, 3), 4 (HEAVY), 6 (BRANDED) and 8 (LOG) are in reach 2,
     * 7 (SUNK) is in reach 0, 5 (KNOTTED) is out. The week is 3. Sheets: 24 shorts, 5 floats, 0 shorts, missing.
     * Slots: log 6, sheet 0, sheet 1, a number, nothing. The weeks told of three weeks wait, a text is on the tape.
     */
    static void some(LogLetters x) {
        some(x, true);
    }

    static void someWithoutBooms(LogLetters x) {
        some(x);
        x.reach(7, 1, 0);
        x.reach(9, 1, 0);
    }

    static void someWithoutWaiting(LogLetters x) {
        some(x, false);
    }

    private static void some(LogLetters x, boolean withWaiting) {
        someLogs(x);
        x.reach(2, 0, 7);
        x.reach(5, 0, 1);
        x.reach(7, 1, 1);
        x.rule(0, 2);
        x.rule(2, 6);
        x.seed(4711);
        Due.text(x, "fee s*100+w");
        Due.text(x, "fine l*100+m");
        x.keep();
        if (withWaiting) {
            tellWeeks(x, 3);
        }
        x.log(0, 11, 45);
        x.weeks(1);
        x.lays(5, 13);
        x.set(4, 1, 12);
        x.word(12);
        x.rule(1, 30);
        x.rule(2, 7);
        x.seed(815);
        x.reach(3, 0, 2);
        x.reach(9, 1, 1);
        Due.text(x, "fee s*7+w");
        someSheetsAndSlots(x);
        Due.feed(x, "fine 3*l-m");
    }

    private static void someLogs(LogLetters x) {
        Due.text(x, "drift 12*(m<9)+(m>30)*2");
        x.log(0, 9, 20);
        x.rule(1, 100);
        x.weeks(1);
        x.rule(1, 0);
        int[][] logs = {{0, 3, 1}, {2, 4, 2}, {0, 3, 3}, {1, 5, 40}, {3, 6, 20}, {4, 7, 21}, {5, 8, 50}};
        for (int[] log : logs) {
            x.log(log[0], log[1], log[2]);
        }
        x.weeks(1);
        for (int letter : new int[] {3, 3, 4, 10}) {
            x.word(letter);
        }
    }

    private static void someSheetsAndSlots(LogLetters x) {
        x.sheet(0, 0, 24);
        for (int place = 0; place < 24; place += 4) {
            x.mark(0, place, 100 * place - 1000);
        }
        x.mark(0, 23, 23);
        x.sheet(1, 1, 5);
        int[] floats = {99999, NONE, -99999, 7, 0};
        for (int place = 0; place < 5; place++) {
            x.mark(1, place, floats[place]);
        }
        x.sheet(2, 0, 0);
        x.lay(0, 1, 6);
        x.lay(1, 2, 0);
        x.lay(2, 2, 1);
        x.lay(3, 3, -77);
    }

    /** All rows are full but those of sheets: 12 logs, 12 letters, 14 texts, 60 numbers that wait, 96 bytes. */
    static void full(LogLetters x) {
        x.seed(5);
        x.deal(12);
        for (int i = 0; i < 12; i++) {
            x.word(i % 4);
        }
        for (int i = 0; i < 14; i++) {
            Due.text(x, i == 0 ? "drift 3" : "fee " + i);
        }
        x.rule(1, 100);
        x.keep();
        tellWeeks(x, 3);
        for (int waiting = 6; waiting < 60; waiting++) {
            x.tell(1);
        }
        for (int sheet = 0; sheet < 4; sheet++) {
            x.sheet(sheet, 1, 24);
        }
        for (int slot = 0; slot < 5; slot++) {
            x.lay(slot, 1, slot);
        }
        Due.feed(x, "fee 1" + "+1".repeat(45) + " ");
    }

    /** For an object that is as its image: the weeks told wait. */
    static void tellWeeks(LogLetters x, int n) {
        int logs = x.count(0);
        for (int i = 1; i <= n; i++) {
            x.tell(x.behind(i, 0));
            int sum = 0;
            for (int log = 0; log < logs; log++) {
                sum += x.behind(i, 3 + log);
            }
            x.tell(sum);
        }
    }
}
