import java.util.List;
import java.util.function.Consumer;

/**
 * Each promise at the ends of its inputs: the last one that is still taken and the first one that is not, on both
 * sides; what a refused call answers, of several refusals the one that stands first; and that it changes nothing
 * but what the document tells.
 */
public final class CallEdgeTest {
    private static final int BAD = -1000000001, NO = -1000000002, FULL = -1000000003, NONE = -1000000005,
        NOTHING = -1000000011, KIND = -1000000012, INDEX = -1000000013, SIZE = -1000000014;
    private static final int MIN = Integer.MIN_VALUE, MAX = Integer.MAX_VALUE;
    private static final Due d = new Due();
    private static Consumer<LogLetters> scene = Scenes::bare;
    private static List<Integer> asItIs = List.of();

    public static void main(String[] args) {
        newObject();
        log();
        told();
        as();
        turns();
        set();
        lays();
        reach();
        rule();
        word();
        unword();
        deal();
        seed();
        weeks();
        read();
        river();
        behind();
        whole();
        frees();
        lost();
        wider();
        opened();
        rolled();
        looked();
        fee();
        fine();
        feed();
        trim();
        text();
        textTold();
        why();
        sheet();
        sheetOfNoPlaces();
        mark();
        markShorts();
        markFloats();
        pour();
        reads();
        copy();
        copyBeyond();
        lay();
        ask();
        item();
        rest();
        tell();
        check();
        keep();
        back();
        count();
        d.end();
    }

    // ---- how it is asked

    private static void in(String about, Consumer<LogLetters> run) {
        d.about(about);
        scene = run;
        asItIs = Everything.of(run);
    }

    /** A call is answered as due, on a new object behind the scene; what it changes is asked from the object. */
    private static LogLetters takes(int due, String name, int... args) {
        LogLetters x = new LogLetters();
        scene.accept(x);
        d.due(Calls.told(name, args), Calls.call(x, name, args), due);
        return x;
    }

    /** A call is answered as due, and all is as it was. */
    private static void stays(int due, String name, int... args) {
        takes(due, name, args);
        d.due("what is otherwise behind " + Calls.told(name, args), Everything.apart(behind(name, args), asItIs), 0);
    }

    private static List<Integer> behind(String name, int... args) {
        return Everything.of(scene.andThen(x -> Calls.call(x, name, args)));
    }

    private static int[] with(int[] args, int which, int v) {
        int[] other = args.clone();
        other[which] = v;
        return other;
    }

    /** Beyond both ends of one input a call is refused; the other inputs are as told. */
    private static void beyond(int due, int low, int high, String name, int which, int... args) {
        for (int v : new int[] {low - 1, high + 1, MIN, MAX}) {
            stays(due, name, with(args, which, v));
        }
    }

    /** One input of a call that changes something: its ends, and BAD beyond them. */
    private static void edges(String name, int which, int low, int dueLow, int high, int dueHigh, int... args) {
        takes(dueLow, name, with(args, which, low));
        takes(dueHigh, name, with(args, which, high));
        beyond(BAD, low, high, name, which, args);
    }

    /** One input of a call that only asks: its ends, BAD beyond them, and nothing ever changes. */
    private static void asks(String name, int which, int low, int dueLow, int high, int dueHigh, int... args) {
        stays(dueLow, name, with(args, which, low));
        stays(dueHigh, name, with(args, which, high));
        beyond(BAD, low, high, name, which, args);
    }

    // ---- logs, reaches

    private static void newObject() {
        in("promise 1: as told; no LOGS", Scenes::bare);
        d.due("the same as without any call", Everything.apart(Everything.of(x -> { }), asItIs), 0);
        stays(BAD, "told", 0, 0);
        stays(BAD, "behind", 0, 3);
        stays(0, "river", 4);
        stays(NO, "back");
    }

    private static void log() {
        in("promise 2: log", Scenes::some);
        edges("log", 0, 0, 9, 5, 9, -1, 6, 7);
        edges("log", 1, 0, 9, 25, 9, 1, -1, 7);
        edges("log", 2, 1, 9, 50, 9, 1, 6, -1);
        LogLetters x = takes(9, "log", 5, 25, 50);
        int[] told = {5, 25, 50, 0, 0};
        for (int what = 0; what < told.length; what++) {
            d.due("told(9, " + what + ")", x.told(9, what), told[what]);
        }
        d.due("log(0, 0, 1)", x.log(0, 0, 1), 10);
        d.due("the twelfth", x.log(0, 0, 1), 11);
        d.due("the thirteenth", x.log(0, 0, 1), FULL);
        d.due("count(0)", x.count(0), 12);
        in("promise 2: FULL, and BAD ahead of it", Scenes::full);
        stays(FULL, "log", 0, 0, 1);
        beyond(BAD, 0, 5, "log", 0, -1, 0, 1);
        beyond(BAD, 0, 25, "log", 1, 0, -1, 1);
        beyond(BAD, 1, 50, "log", 2, 0, 0, -1);
    }

    private static void told() {
        in("promise 3: told", Scenes::some);
        asks("told", 0, 0, 20, 8, 45, -1, 2);
        asks("told", 1, 0, 4, 7, 73, 6, -1);
        in("promise 3: of twelve", Scenes::full);
        asks("told", 0, 0, 0, 11, 0, -1, 4);
    }

    private static void as() {
        in("promise 4: as", Scenes::some);
        asks("as", 0, 0, 20, 8, 45, -1, 0);
        asks("as", 1, 0, 50, 5, 50, 7, -1);
        int[][] not = {{0, 1}, {0, 2}, {0, 3}, {0, 4}, {0, 5}, {2, 1}, {2, 3}, {2, 4}, {2, 5}, {4, 2}, {4, 3}, {4, 4}, {4, 5},
            {5, 2}, {5, 4}, {5, 5}, {6, 1}, {6, 3}, {6, 5}, {7, 1}, {7, 2}, {7, 3}, {7, 4}};
        for (int[] n : not) {
            stays(KIND, "as", n);
        }
        int[][] under = {{5, 1, 20}, {5, 3, 20}, {6, 2, 21}, {6, 4, 21}, {4, 1, 40}, {2, 2, 2}, {5, 0, 20}, {6, 0, 21}};
        for (int[] u : under) {
            stays(u[2], "as", u[0], u[1]);
        }
        beyond(BAD, 0, 8, "as", 0, -1, 5);
    }

    private static void turns() {
        in("promise 5: turns", Scenes::some);
        edges("turns", 0, 0, 0, 8, 0, -1, 3);
        edges("turns", 1, 0, 1, 5, 1, 4, -1);
        d.due("KIND then", takes(1, "turns", 4, 5).told(4, 0), 5);
        d.due("KIND of one that has COME", takes(2, "turns", 2, 0).told(2, 0), 0);
    }

    private static void set() {
        in("promise 6: set", Scenes::some);
        edges("set", 0, 0, 9, 8, 11, -1, 1, 5);
        edges("set", 1, 1, 12, 2, 40, 4, -1, 20);
        edges("set", 2, 0, 12, 25, 12, 4, 1, -1);
        edges("set", 2, 1, 40, 50, 40, 4, 2, -1);
        d.due("LETTER then", takes(12, "set", 4, 1, 25).told(4, 1), 25);
        d.due("LETTER then", takes(12, "set", 4, 1, 0).told(4, 1), 0);
        d.due("MASS then", takes(40, "set", 4, 2, 50).told(4, 2), 50);
        d.due("MASS then", takes(40, "set", 4, 2, 1).told(4, 2), 1);
    }

    private static void lays() {
        in("promise 7: lays", Scenes::some);
        edges("lays", 0, 0, 13, 8, 2, -1, 5);
        edges("lays", 1, 0, 2, 11, 2, 4, -1);
        d.due("REACH then", takes(2, "lays", 4, 0).told(4, 3), 0);
        d.due("REACH then", takes(2, "lays", 4, 11).told(4, 3), 11);
        LogLetters x = takes(2, "lays", 4, 13);
        d.due("out then", x.told(4, 3), 13);
        d.due("not SAWN", x.river(2), 1);
        stays(BAD, "lays", 4, 12);
        stays(BAD, "lays", 4, 14);
        for (int come = 1; come <= 3; come++) {
            stays(NO, "lays", come, 0);
            stays(NO, "lays", come, 11);
            stays(NO, "lays", come, 13);
            stays(BAD, "lays", come, 12);
            stays(BAD, "lays", come, 14);
            stays(BAD, "lays", come, -1);
        }
        x = takes(2, "lays", 4, 5);
        d.due("into a reach with ROOM for one, that holds one", x.lays(6, 5), 2);
        d.due("REACH then", x.told(6, 3), 5);
        stays(13, "lays", 5, 13);
        stays(2, "lays", 4, 2);
    }

    private static void reach() {
        in("promise 8: reach", Scenes::some);
        edges("reach", 0, 0, 4, 11, 4, -1, 0, 9);
        edges("reach", 0, 0, 0, 11, 0, -1, 1, 1);
        edges("reach", 1, 0, 4, 1, 1, 7, -1, 1);
        edges("reach", 2, 1, 7, 12, 7, 2, 0, -1);
        edges("reach", 2, 0, 1, 1, 1, 7, 1, -1);
        d.due("ROOM was", takes(7, "reach", 2, 0, 12).reach(2, 0, 1), 12);
        d.due("ROOM was", takes(7, "reach", 2, 0, 1).reach(2, 0, 12), 1);
        d.due("BOOM was", takes(1, "reach", 7, 1, 0).reach(7, 1, 1), 0);
        d.due("BOOM was", takes(0, "reach", 6, 1, 1).reach(6, 1, 1), 1);
    }

    private static void rule() {
        in("promise 9: rule", Scenes::some);
        edges("rule", 0, 0, 2, 2, 7, -1, 5);
        edges("rule", 1, 0, 2, 9, 2, 0, -1);
        edges("rule", 1, 0, 30, 100, 30, 1, -1);
        edges("rule", 1, 0, 7, 9, 7, 2, -1);
        int[][] then = {{0, 0, 3}, {0, 9, 3}, {1, 0, 4}, {1, 100, 4}, {2, 0, 2}, {2, 9, 2}};
        int[] was = {2, 30, 7};
        for (int[] t : then) {
            d.due("rule " + t[0] + " then", takes(was[t[0]], "rule", t[0], t[1]).count(t[2]), t[1]);
        }
    }

    private static void word() {
        in("promise 10: word", Scenes::some);
        edges("word", 0, 0, 6, 25, 6, -1);
        LogLetters x = takes(6, "word", 25);
        for (int many = 7; many <= 12; many++) {
            d.due("word(0)", x.word(0), many);
        }
        d.due("the thirteenth", x.word(0), FULL);
        d.due("count(5)", x.count(5), 12);
        in("promise 10: FULL, and BAD ahead of it", Scenes::full);
        stays(FULL, "word", 0);
        stays(FULL, "word", 25);
        beyond(BAD, 0, 25, "word", 0, -1);
    }

    private static void unword() {
        in("promise 11: unword", Scenes::bare);
        stays(0, "unword");
        in("promise 11: of some", Scenes::some);
        LogLetters x = takes(5, "unword");
        d.due("SPELT of an empty WORD", x.river(0), 0);
        d.due("unword()", x.unword(), 0);
        d.due("word(3)", x.word(3), 1);
        d.due("SPELT", x.river(0), 1);
        in("promise 11: of twelve", Scenes::full);
        x = takes(12, "unword");
        d.due("there is room again", x.word(1), 1);
    }

    private static void deal() {
        in("promise 12: deal", Scenes::some);
        edges("deal", 0, 1, 1, 12, 3, -1);
        for (int n = 1; n <= 5; n++) {
            LogLetters x = takes(Math.min(n, 3), "deal", n);
            int z = 815;
            for (int draw = 0; draw < 3 * Math.min(n, 3); draw++) {
                z = Due.nextZ(z);
            }
            d.due("no draws for others behind deal(" + n + ")", x.count(9), z);
            d.due("count(0)", x.count(0), 9 + Math.min(n, 3));
        }
        in("promise 12: into none", Scenes::bare);
        edges("deal", 0, 1, 1, 12, 12, -1);
        in("promise 12: there is no room", Scenes::full);
        stays(0, "deal", 1);
        stays(0, "deal", 12);
        beyond(BAD, 1, 12, "deal", 0, -1);
    }

    private static void seed() {
        in("promise 13: seed", Scenes::some);
        for (int v : new int[] {MIN, MAX, 0, -1, BAD, NONE}) {
            d.due("z then", takes(815, "seed", v).count(9), v);
        }
        stays(815, "seed", 815);
    }

    // ---- weeks

    private static void weeks() {
        in("promise 14: weeks", Scenes::some);
        edges("weeks", 0, 1, 0, 60, 0, -1);
        d.due("THE WEEK then", takes(0, "weeks", 1).count(1), 4);
        d.due("THE WEEK then", takes(0, "weeks", 60).count(1), 63);
        in("promise 14: how many have COME in them, not before", x -> { Scenes.someWithoutBooms(x); x.rule(1, 0); });
        takes(3, "weeks", 60);
    }

    private static void read() {
        in("promise 15: read", Scenes::some);
        asks("read", 0, -1, 3, 11, NONE, -1);
        stays(3, "read", 0);
        stays(3, "read", 2);
        stays(NONE, "read", 3);
        in("promise 15: none has COME", Scenes::full);
        asks("read", 0, -1, 0, 11, NONE, -1);
        stays(NONE, "read", 0);
    }

    private static void river() {
        in("promise 16: river", Scenes::some);
        asks("river", 0, 0, 3, 4, 464, -1);
        stays(0, "river", 1);
        stays(1, "river", 2);
        stays(3, "river", 3);
        in("promise 16: all twelve", Scenes::full);
        stays(4095, "river", 4);
        stays(12, "river", 1);
    }

    // ---- what will be

    private static void behind() {
        in("promise 17: behind", Scenes::some);
        asks("behind", 0, 0, 3, 60, 3, -1, 0);
        asks("behind", 1, 0, 3, 11, 2, 0, -1);
        stays(1, "behind", 0, 1);
        stays(3, "behind", 0, 2);
        stays(13, "behind", 0, 3);
        in("promise 17: of twelve", Scenes::full);
        asks("behind", 1, 0, 0, 14, 0, 0, -1);
        in("promise 17: of none", Scenes::bare);
        asks("behind", 1, 0, 0, 2, 0, 60, -1);
    }

    private static void whole() {
        in("promise 18: NONE, not by then", Scenes::some);
        stays(NONE, "whole");
        in("promise 18: an empty WORD", Scenes::bare);
        stays(0, "whole");
    }

    private static void frees() {
        in("promise 19: frees", Scenes::some);
        asks("frees", 0, 1, 4, 40, 4, -1, 0);
        asks("frees", 1, 0, 4, 1, 3, 1, -1);
        in("promise 19: none is on THE RIVER, and BAD ahead of it", Scenes::bare);
        stays(NONE, "frees", 1, 0);
        stays(NONE, "frees", 40, 1);
        beyond(BAD, 1, 40, "frees", 0, -1, 0);
        beyond(BAD, 0, 1, "frees", 1, 1, -1);
    }

    private static void lost() {
        in("promise 20: lost", Scenes::some);
        asks("lost", 0, 1, 464, 40, 464, -1);
        in("promise 20: none is on THE RIVER", Scenes::bare);
        asks("lost", 0, 1, 0, 40, 0, -1);
    }

    private static void wider() {
        in("promise 21: wider", Scenes::some);
        asks("wider", 0, 1, 0, 40, 0, -1, 0);
        asks("wider", 1, 0, 0, 1, 3, 1, -1);
        in("promise 21: no LOGS", Scenes::bare);
        stays(0, "wider", 1, 0);
        stays(0, "wider", 40, 1);
    }

    private static void opened() {
        in("promise 22: opened", Scenes::some);
        LogLetters x = new LogLetters();
        Scenes.someWithoutBooms(x);
        asks("opened", 0, 1, 0, 60, x.weeks(60), -1);
        in("promise 22: no LOGS", Scenes::bare);
        asks("opened", 0, 1, 0, 60, 0, -1);
    }

    private static void rolled() {
        in("promise 23: rolled", Scenes::some);
        asks("rolled", 0, 0, NONE, 8, NO, -1, 1);
        asks("rolled", 1, 1, NONE, 40, NONE, 0, -1);
        stays(NO, "rolled", 1, 40);
        stays(NO, "rolled", 7, 40);
        beyond(BAD, 1, 40, "rolled", 1, 8, -1);
        beyond(BAD, 1, 40, "rolled", 1, 1, -1);
    }

    private static void looked() {
        in("promise 24: looked", Scenes::some);
        asks("looked", 0, 0, 1, 3, NOTHING, -1, 0, 0);
        asks("looked", 1, 0, 1, 8, 1, 2, -1, 0);
        asks("looked", 2, 0, 1, 1, 0, 2, 0, -1);
        beyond(BAD, 0, 8, "looked", 1, 3, -1, 0);
        beyond(BAD, 0, 1, "looked", 2, 3, 0, -1);
        stays(NOTHING, "looked", 3, 8, 1);
    }

    private static void fee() {
        in("promise 25: fee", Scenes::some);
        stays(10, "fee");
        in("promise 25: without a TEXT", Scenes::bare);
        stays(0, "fee");
    }

    private static void fine() {
        in("promise 26: fine", Scenes::some);
        asks("fine", 0, 0, 920, 8, 1145, -1);
        in("promise 26: of twelve, without a TEXT", Scenes::full);
        LogLetters x = new LogLetters();
        Scenes.full(x);
        asks("fine", 0, 0, x.told(0, 1), 11, x.told(11, 1), -1);
    }

    // ---- texts

    private static void feed() {
        in("promise 27: feed", Scenes::some);
        takes(22, "feed", MIN, MAX, -1);
        in("promise 27: FULL", Scenes::full);
        stays(FULL, "feed", 0x20202020, 0x20202020, 0x20202020);
        in("promise 27: 12 more would be 97", x -> { Scenes.full(x); x.trim(85); });
        stays(FULL, "feed", 0x20202020, 0x20202020, 0x20202020);
        in("promise 27: 12 more are 96", x -> { Scenes.full(x); x.trim(84); });
        takes(96, "feed", 0x20202020, 0x20202020, 0x20202020);
    }

    private static void trim() {
        in("promise 28: trim", Scenes::some);
        edges("trim", 0, 0, 0, 10, 10, -1);
        stays(10, "trim", 10);
        d.due("bytes then", takes(9, "trim", 9).count(8), 9);
        d.due("the first ones are kept", takes(8, "trim", 8).text(), 4);
        in("promise 28: of none", Scenes::bare);
        stays(0, "trim", 0);
        stays(BAD, "trim", 1);
        in("promise 28: of 96", Scenes::full);
        edges("trim", 0, 0, 0, 96, 96, -1);
    }

    /** The tape is used up, whatever is answered; nothing else changes where it is refused. */
    private static void text() {
        Consumer<LogLetters> usedUp = x -> { Scenes.some(x); x.trim(0); };
        in("promise 29: a FAULT", x -> { Scenes.some(x); Due.feed(x, "fine 3*l-"); });
        takes(-109, "text");
        d.due("what is otherwise but the tape", Everything.apart(behind("text"), Everything.of(usedUp)), 0);
        in("promise 29: no bytes", usedUp);
        stays(-100, "text");
        in("promise 29: FULL", Scenes::full);
        usedUp = x -> { Scenes.full(x); x.trim(0); };
        takes(FULL, "text");
        d.due("what is otherwise but the tape", Everything.apart(behind("text"), Everything.of(usedUp)), 0);
        in("promise 29: a FAULT ahead of FULL", x -> { Scenes.full(x); x.trim(95); x.trim(94); });
        takes(-194, "text");
        d.due("what is otherwise but the tape", Everything.apart(behind("text"), Everything.of(usedUp)), 0);
        in("promise 29: the fourteenth", x -> { Scenes.some(x); x.trim(0); });
        LogLetters x = takes(-100, "text");
        for (int number = 4; number < 14; number++) {
            d.due("text()", Due.text(x, "fee 5"), number);
        }
        d.due("the fifteenth", Due.text(x, "fee 6"), FULL);
        d.due("count(6)", x.count(6), 14);
        d.due("fee()", x.fee(), 5);
    }

    private static void textTold() {
        in("promise 30: textTold", Scenes::some);
        asks("textTold", 0, 0, 0, 3, 1, -1, 0);
        asks("textTold", 1, 0, 0, 1, 6, 0, -1);
        in("promise 30: of fourteen", Scenes::full);
        asks("textTold", 0, 0, 0, 13, 1, -1, 0);
        in("promise 30: of none", Scenes::bare);
        stays(BAD, "textTold", 0, 0);
    }

    private static void why() {
        in("promise 31: why", Scenes::some);
        asks("why", 0, 0, 0, 2, 2, -1);
        stays(3, "why", 1);
        in("promise 31: NONE", Scenes::bare);
        asks("why", 0, 0, NONE, 2, NONE, -1);
    }

    // ---- sheets, slots

    private static void sheet() {
        in("promise 32: sheet", Scenes::some);
        edges("sheet", 0, 0, 2, 3, 2, -1, 1, 2);
        edges("sheet", 1, -1, 0, 1, 2, 0, -1, 2);
        for (int sort = 0; sort <= 1; sort++) {
            takes(0, "sheet", 1, sort, 0);
            takes(24, "sheet", 1, sort, 24);
            stays(BAD, "sheet", 1, sort, 25);
            stays(BAD, "sheet", 1, sort, MAX);
            stays(SIZE, "sheet", 1, sort, -1);
            stays(SIZE, "sheet", 1, sort, MIN);
        }
        for (int n : new int[] {MIN, -1, 0, 24, 25, MAX}) {
            d.due("MISSING, n any", takes(0, "sheet", 0, -1, n).reads(0), NOTHING);
        }
        for (int n : new int[] {MIN, -1}) {
            stays(BAD, "sheet", -1, 0, n);
            stays(BAD, "sheet", 4, 1, n);
            stays(BAD, "sheet", 0, -2, n);
            stays(BAD, "sheet", 0, 2, n);
        }
        LogLetters x = takes(24, "sheet", 1, 0, 24);
        x.lay(0, 2, 1);
        for (int place = 0; place < 24; place++) {
            d.due("all 0", x.item(0, place), 0);
        }
    }

    private static void sheetOfNoPlaces() {
        in("promise 32: 0 places are not MISSING", Scenes::some);
        LogLetters x = takes(0, "sheet", 3, 1, 0);
        d.due("reads(3)", x.reads(3), NONE);
        d.due("mark(3, 0, 0)", x.mark(3, 0, 0), INDEX);
        d.due("pour(3)", x.pour(3), 0);
        d.due("lay(4, 2, 3)", x.lay(4, 2, 3), 0);
        d.due("item(4, 0)", x.item(4, 0), INDEX);
        d.due("copy(3, 0, 3, 0, 0)", x.copy(3, 0, 3, 0, 0), 0);
        d.due("copy(3, 0, 3, 0, 1)", x.copy(3, 0, 3, 0, 1), INDEX);
    }

    private static void mark() {
        in("promise 33: mark", Scenes::some);
        for (int sheet : new int[] {-1, 4, MIN, MAX}) {
            stays(BAD, "mark", sheet, 0, 0);
            stays(BAD, "mark", sheet, -1, NONE);
        }
        takes(1, "mark", 0, 0, 5);
        takes(1, "mark", 0, 23, 5);
        beyond(INDEX, 0, 23, "mark", 1, 0, -1, 5);
        takes(1, "mark", 1, 0, 5);
        takes(1, "mark", 1, 4, 5);
        beyond(INDEX, 0, 4, "mark", 1, 1, -1, 5);
        d.about("promise 33: NOTHING, ahead of INDEX, KIND");
        stays(NOTHING, "mark", 3, 0, 0);
        stays(NOTHING, "mark", 3, -1, NONE);
        stays(NOTHING, "mark", 3, 24, 100000);
        d.about("promise 33: INDEX, ahead of KIND, BAD");
        stays(INDEX, "mark", 0, 24, NONE);
        stays(INDEX, "mark", 2, 0, NONE);
        stays(INDEX, "mark", 1, 5, 100000);
        stays(INDEX, "mark", 1, 5, NONE);
        d.about("promise 33: KIND: NONE in a row of shorts");
        stays(KIND, "mark", 0, 0, NONE);
        stays(KIND, "mark", 0, 23, NONE);
    }

    private static void markShorts() {
        in("promise 33: of shorts its lowest 16 bits", Scenes::some);
        int[][] bits = {{32767, 32767}, {32768, -32768}, {-32768, -32768}, {-32769, 32767}, {65535, -1}, {65536, 0},
            {MAX, -1}, {MIN, 0}, {NONE + 1, (short) (NONE + 1)}, {NONE - 1, (short) (NONE - 1)}, {100000, -31072}};
        for (int[] b : bits) {
            LogLetters x = takes(1, "mark", 0, 23, b[0]);
            x.lay(0, 2, 0);
            d.due("the place then", x.item(0, 23), b[1]);
        }
    }

    private static void markFloats() {
        in("promise 33: of floats v, -99999 .. 99999; NONE: NO NUMBER", Scenes::some);
        for (int v : new int[] {-99999, 99999, 0, -1}) {
            LogLetters x = takes(1, "mark", 1, 4, v);
            x.lay(0, 2, 1);
            d.due("the place then", x.item(0, 4), v);
        }
        for (int v : new int[] {-100000, 100000, MIN, MAX, NONE - 1, NONE + 1, BAD, KIND}) {
            stays(BAD, "mark", 1, 4, v);
            stays(BAD, "mark", 1, 1, v);
        }
        LogLetters x = takes(1, "mark", 1, 4, NONE);
        x.lay(0, 2, 1);
        d.due("NO NUMBER", x.item(0, 4), KIND);
        x = takes(1, "mark", 1, 1, 3);
        x.lay(0, 2, 1);
        d.due("a number again", x.item(0, 1), 3);
    }

    private static void pour() {
        in("promise 34: pour", Scenes::some);
        edges("pour", 0, 0, 11, 3, NOTHING, -1);
        stays(NOTHING, "pour", 3);
        stays(0, "pour", 2);
        LogLetters x = takes(4, "pour", 1);
        int[] rooms = {12, 4, 1, 7, 1, 1, 4, 4, 4, 4, 4, 4};
        for (int r = 0; r < 12; r++) {
            d.due("ROOM of " + r, x.reach(r, 0, 4), rooms[r]);
        }
        in("promise 34: each held within 1 .. 12", y -> {
            Scenes.some(y);
            y.sheet(3, 0, 24);
            int[] places = {0, 1, 12, 13, -1, 2, 11, -32768, 32767, 4, 4, 3};
            for (int k = 0; k < 12; k++) {
                y.mark(3, k, places[k]);
            }
        });
        x = takes(10, "pour", 3);
        int[] held = {1, 1, 12, 12, 1, 2, 11, 1, 12, 4, 4, 3};
        for (int r = 0; r < 12; r++) {
            d.due("ROOM of " + r, x.reach(r, 0, 4), held[r]);
        }
    }

    private static void reads() {
        in("promise 35: reads", Scenes::some);
        asks("reads", 0, 0, 0, 3, NOTHING, -1);
        stays(0, "reads", 1);
        stays(NONE, "reads", 2);
        int[] reaches = {13, 12, 12, 12, 2, 13, 2, 0, 2};
        for (int sort = 0; sort <= 1; sort++) {
            int n = sort;
            Consumer<LogLetters> right = x -> {
                Scenes.some(x);
                x.sheet(3, n, 9);
                for (int k = 0; k < 9; k++) {
                    x.mark(3, k, reaches[k]);
                }
            };
            in("promise 35: NONE: there is none", right);
            stays(NONE, "reads", 3);
            for (int k = 0; k < 9; k++) {
                int place = k;
                in("promise 35: the first place", right.andThen(x -> { x.mark(3, 8, 9); x.mark(3, place, reaches[place] + 1); }));
                stays(k, "reads", 3);
            }
        }
        in("promise 35: of places that are no LOG all numbers are not", Scenes::full);
        stays(12, "reads", 0);
        in("promise 35: of numbers alone", x -> { Scenes.full(x); x.mark(0, 12, NONE); });
        stays(13, "reads", 0);
        in("promise 35: of numbers alone", x -> {
            Scenes.full(x);
            x.sheet(0, 1, 13);
            x.mark(0, 12, NONE);
            x.mark(0, 3, NONE);
        });
        stays(NONE, "reads", 0);
    }

    private static void copy() {
        in("promise 36: copy, BAD", Scenes::some);
        for (int sheet : new int[] {-1, 4, MIN, MAX}) {
            stays(BAD, "copy", sheet, 0, 0, 0, 1);
            stays(BAD, "copy", 0, 0, sheet, 0, 1);
            stays(BAD, "copy", sheet, 0, 3, 0, 1);
            stays(BAD, "copy", 3, -1, sheet, 0, 1);
        }
        d.about("promise 36: NOTHING, ahead of KIND, INDEX");
        stays(NOTHING, "copy", 3, 0, 0, 0, 1);
        stays(NOTHING, "copy", 0, 0, 3, 0, 1);
        stays(NOTHING, "copy", 3, -1, 1, 0, 99);
        stays(NOTHING, "copy", 1, 0, 3, -1, -1);
        d.about("promise 36: KIND, ahead of INDEX");
        stays(KIND, "copy", 0, 0, 1, 0, 1);
        stays(KIND, "copy", 1, 0, 0, 0, 1);
        stays(KIND, "copy", 0, -1, 1, 0, 1);
        stays(KIND, "copy", 1, 0, 0, 0, 99);
        stays(KIND, "copy", 1, 0, 2, 0, 0);
        stays(KIND, "copy", 1, 0, 0, 0, -1);
        d.about("promise 36: the ends that are taken");
        takes(24, "copy", 0, 0, 0, 0, 24);
        takes(23, "copy", 0, 1, 0, 0, 23);
        takes(23, "copy", 0, 0, 0, 1, 23);
        takes(1, "copy", 0, 23, 0, 0, 1);
        takes(1, "copy", 0, 0, 0, 23, 1);
        stays(24, "copy", 0, 0, 0, 0, 24);
        stays(0, "copy", 0, 0, 0, 5, 0);
        stays(0, "copy", 0, 24, 0, 24, 0);
        stays(0, "copy", 0, 24, 2, 0, 0);
        LogLetters x = takes(4, "copy", 1, 0, 1, 1, 4);
        x.lay(0, 2, 1);
        int[] moved = {99999, 99999, KIND, -99999, 7};
        for (int place = 0; place < 5; place++) {
            d.due("as they were: " + place, x.item(0, place), moved[place]);
        }
        x = takes(4, "copy", 1, 1, 1, 0, 4);
        x.lay(0, 2, 1);
        int[] back = {KIND, -99999, 7, 0, 0};
        for (int place = 0; place < 5; place++) {
            d.due("as they were: " + place, x.item(0, place), back[place]);
        }
    }

    private static void copyBeyond() {
        in("promise 36: INDEX", Scenes::some);
        int[][] beyond = {{0, 0, 0, 0, 25}, {0, 1, 0, 0, 24}, {0, 0, 0, 1, 24}, {0, 24, 0, 0, 1}, {0, 0, 0, 24, 1}, {0, 25, 0, 0, 0},
            {0, 0, 0, 25, 0}, {0, -1, 0, 0, 1}, {0, 0, 0, -1, 1}, {0, -1, 0, 0, 0}, {0, 0, 0, -1, 0}, {0, 0, 0, 0, -1}, {0, 5, 0, 5, -1},
            {0, 0, 2, 0, 1}, {2, 0, 0, 0, 1}, {2, 1, 0, 0, 0}, {0, MAX, 0, 0, 1}, {0, 0, 0, MAX, 1}, {0, 0, 0, 0, MAX},
            {0, 1, 0, 1, MAX}, {0, MAX, 0, MAX, MAX}, {0, MIN, 0, 0, 1}, {0, 0, 0, MIN, 1}, {0, 0, 0, 0, MIN}, {0, MAX, 0, 0, MIN},
            {0, MIN, 0, MIN, MIN}, {1, 0, 1, 0, 6}, {1, 4, 1, 0, 2}, {1, 0, 1, 4, 2}};
        for (int[] b : beyond) {
            stays(INDEX, "copy", b);
        }
    }

    private static void lay() {
        in("promise 37: lay", Scenes::some);
        edges("lay", 0, 0, 1, 4, 0, -1, 0, 0);
        edges("lay", 1, 0, 3, 3, 3, 3, -1, 0);
        edges("lay", 2, 0, 3, 8, 3, 3, 1, -1);
        takes(3, "lay", 3, 2, 0);
        takes(3, "lay", 3, 2, 2);
        beyond(BAD, 0, 3, "lay", 2, 3, 2, -1);
        for (int k : new int[] {MIN, -1, 0, 99, MAX}) {
            d.due("holds nothing, k any", takes(3, "lay", 3, 0, k).rest(3, 5), NOTHING);
            d.due("holds the number", takes(0, "lay", 4, 3, k).rest(4, 97), k % 97);
        }
        for (int slot = 0; slot < 5; slot++) {
            stays(NOTHING, "lay", slot, 2, 3);
        }
        d.about("promise 37: BAD, ahead of NOTHING");
        stays(BAD, "lay", 5, 2, 3);
        stays(BAD, "lay", -1, 2, 3);
        in("promise 37: of twelve LOGS", Scenes::full);
        edges("lay", 2, 0, 1, 11, 1, 3, 1, -1);
    }

    private static void ask() {
        in("promise 38: ask", Scenes::some);
        asks("ask", 0, 0, 73, 4, NOTHING, -1, 0);
        asks("ask", 1, 0, 73, 5, KIND, 0, -1);
        int[] worth = {73, KIND, 73, KIND, 73, KIND};
        for (int kind = 0; kind < 6; kind++) {
            stays(worth[kind], "ask", 0, kind);
            stays(KIND, "ask", 1, kind);
            stays(KIND, "ask", 2, kind);
            stays(KIND, "ask", 3, kind);
            stays(NOTHING, "ask", 4, kind);
        }
        d.about("promise 38: BAD, ahead of NOTHING, KIND");
        beyond(BAD, 0, 5, "ask", 1, 4, -1);
        beyond(BAD, 0, 5, "ask", 1, 3, -1);
    }

    private static void item() {
        in("promise 39: item", Scenes::some);
        asks("item", 0, 0, KIND, 4, NOTHING, -1, 0);
        stays(-1000, "item", 1, 0);
        stays(23, "item", 1, 23);
        beyond(INDEX, 0, 23, "item", 1, 1, -1);
        stays(99999, "item", 2, 0);
        stays(0, "item", 2, 4);
        beyond(INDEX, 0, 4, "item", 1, 2, -1);
        stays(KIND, "item", 2, 1);
        stays(-99999, "item", 2, 2);
        d.about("promise 39: BAD, NOTHING, KIND, each ahead of INDEX");
        stays(BAD, "item", 5, -1);
        stays(NOTHING, "item", 4, -1);
        stays(KIND, "item", 0, -1);
        stays(KIND, "item", 3, 99);
    }

    private static void rest() {
        in("promise 40: rest", Scenes::some);
        asks("rest", 0, 0, KIND, 4, NOTHING, -1, 0);
        stays(NO, "rest", 3, 0);
        int[][] rests = {{1, 0}, {-1, 0}, {2, -1}, {-2, -1}, {76, -1}, {77, 0}, {78, -77}, {MAX, -77}, {MIN, -77}, {10, -7}, {-10, -7}};
        for (int[] r : rests) {
            stays(r[1], "rest", 3, r[0]);
        }
        d.about("promise 40: NOTHING, KIND, ahead of NO");
        stays(NOTHING, "rest", 4, 0);
        stays(KIND, "rest", 0, 0);
        stays(KIND, "rest", 1, 0);
        stays(KIND, "rest", 2, 7);
        in("promise 40: the least number", x -> { Scenes.some(x); x.lay(4, 3, MIN); });
        stays(0, "rest", 4, -1);
        stays(0, "rest", 4, MIN);
        stays(-1, "rest", 4, MAX);
        stays(NO, "rest", 4, 0);
    }

    // ---- rows, images

    private static void tell() {
        in("promise 41: tell", Scenes::some);
        LogLetters x = takes(7, "tell", MIN);
        for (int many = 8; many <= 60; many++) {
            d.due("tell(" + MAX + ")", x.tell(MAX), many);
        }
        d.due("the sixty-first", x.tell(0), FULL);
        d.due("count(7)", x.count(7), 60);
        in("promise 41: FULL", Scenes::full);
        stays(FULL, "tell", 0);
        stays(FULL, "tell", MIN);
    }

    /** The numbers that wait are gone, whatever is answered; nothing else ever changes. */
    private static void check() {
        List<Integer> gone = Everything.of(Scenes::someWithoutWaiting);
        in("promise 42: check", Scenes::some);
        int[][] answers = {{3, 0}, {1, 3}, {2, 5}, {4, 7}, {30, 7}, {0, BAD}, {31, BAD}, {-1, BAD}, {MIN, BAD}, {MAX, BAD}};
        for (int[] a : answers) {
            takes(a[1], "check", a[0]);
            d.due("what is otherwise but what waits", Everything.apart(behind("check", a[0]), gone), 0);
        }
        in("promise 42: none wait", Scenes::someWithoutWaiting);
        asks("check", 0, 1, 1, 30, 1, -1);
        in("promise 42: sixty wait", Scenes::full);
        takes(7, "check", 30);
        in("promise 42: NO, and BAD ahead of it", x -> x.tell(5));
        for (int n : new int[] {1, 30, 0, 31}) {
            LogLetters x = takes(n == 1 || n == 30 ? NO : BAD, "check", n);
            d.due("none waits", x.count(7), 0);
            d.due("what is otherwise", Everything.apart(behind("check", n), Everything.of(Scenes::bare)), 0);
        }
        in("promise 42: nothing is told of no LOGS but 0 and 0", x -> x.keep());
        asks("check", 0, 1, 1, 30, 1, -1);
        in("promise 42: 0 and 0, for 30 WEEKS", x -> {
            x.keep();
            for (int i = 0; i < 60; i++) {
                x.tell(0);
            }
        });
        takes(0, "check", 30);
        takes(59, "check", 29);
        takes(3, "check", 1);
    }

    private static void keep() {
        in("promise 43: keep", Scenes::some);
        d.due("back()", takes(9, "keep").back(), 9);
        in("promise 43: no LOGS", Scenes::bare);
        d.due("back()", takes(0, "keep").back(), 0);
        in("promise 43: twelve LOGS, as THE IMAGE is", x -> { Scenes.full(x); x.keep(); });
        stays(12, "keep");
    }

    private static void back() {
        in("promise 44: NO: there is none", Scenes::bare);
        stays(NO, "back");
        in("promise 44: NO: there is none", x -> { x.deal(3); x.weeks(1); x.tell(0); x.feed(0, 0, 0); });
        stays(NO, "back");
        in("promise 44: back", Scenes::some);
        LogLetters x = takes(8, "back");
        int[] counts = {8, 2, 6, 2, 0, 4, 3, 6, 10, 4711};
        for (int what = 0; what < 10; what++) {
            d.due("count(" + what + ")", x.count(what), counts[what]);
        }
        d.due("again", x.back(), 8);
        in("promise 44: again and again", y -> { Scenes.some(y); y.back(); });
        stays(8, "back");
    }

    private static void count() {
        in("promise 45: count", Scenes::some);
        asks("count", 0, 0, 9, 9, 815, -1);
        int[] counts = {9, 3, 7, 2, 30, 5, 4, 6, 10, 815};
        for (int what = 0; what < 10; what++) {
            stays(counts[what], "count", what);
        }
        in("promise 45: all that is full", Scenes::full);
        int[][] most = {{0, 12}, {5, 12}, {6, 14}, {7, 60}, {8, 96}, {4, 100}};
        for (int[] m : most) {
            stays(m[1], "count", m[0]);
        }
    }
}
