import java.util.ArrayList;
import java.util.List;
import java.util.function.BiConsumer;
import java.util.function.Consumer;

/**
 * All that can be seen of an object behind a run of calls, so that two runs can be held against one another.
 * Each part is seen on an object of its own: looking changes what is looked at, and an object has but 512 calls.
 */
final class Everything {
    private static final int NONE = -1000000005;
    private static final List<BiConsumer<LogLetters, List<Integer>>> PARTS = List.of(
        Everything::river, Everything::reaches, Everything::word, Everything::slots, Everything::sheets,
        Everything::waiting, Everything::tape, Everything::will, Everything::image);

    private Everything() { }

    static List<Integer> of(Consumer<LogLetters> run) {
        List<Integer> seen = new ArrayList<>();
        for (BiConsumer<LogLetters, List<Integer>> part : PARTS) {
            LogLetters x = new LogLetters();
            run.accept(x);
            part.accept(x, seen);
        }
        return seen;
    }

    /** In how many places what is seen behind one run is not what is seen behind the other. */
    static int apart(List<Integer> one, List<Integer> other) {
        int apart = Math.abs(one.size() - other.size());
        for (int i = 0; i < Math.min(one.size(), other.size()); i++) {
            apart += one.get(i).equals(other.get(i)) ? 0 : 1;
        }
        return apart;
    }

    private static void river(LogLetters x, List<Integer> seen) {
        for (int what = 0; what < 10; what++) {
            seen.add(x.count(what));
        }
        for (int log = 0; log < 12; log++) {
            for (int what = 0; what < 8; what++) {
                seen.add(x.told(log, what));
            }
            seen.add(x.fine(log));
        }
        for (int k = -1; k < 12; k++) {
            seen.add(x.read(k));
        }
        for (int what = 0; what < 5; what++) {
            seen.add(x.river(what));
        }
        for (int text = 0; text < 14; text++) {
            seen.add(x.textTold(text, 0));
            seen.add(x.textTold(text, 1));
        }
        for (int key = 0; key < 3; key++) {
            seen.add(x.why(key));
        }
        seen.add(x.fee());
    }

    private static void reaches(LogLetters x, List<Integer> seen) {
        for (int r = 0; r < 12; r++) {
            seen.add(x.reach(r, 0, 1));
            seen.add(x.reach(r, 1, 0));
        }
    }

    /** How many of each letter the word has is seen from logs that have come, all with that letter. */
    private static void word(LogLetters x, List<Integer> seen) {
        for (int letter = 0; letter < 26; letter++) {
            for (int log = 0; log < 6; log++) {
                x.set(log, 1, letter);
            }
            seen.add(x.river(0));
        }
        seen.add(x.unword());
    }

    private static void slots(LogLetters x, List<Integer> seen) {
        for (int slot = 0; slot < 5; slot++) {
            for (int kind = 0; kind < 6; kind++) {
                seen.add(x.ask(slot, kind));
            }
            seen.add(x.rest(slot, Integer.MIN_VALUE));
            seePlaces(x, slot, seen);
        }
    }

    private static void sheets(LogLetters x, List<Integer> seen) {
        for (int sheet = 0; sheet < 4; sheet++) {
            seen.add(x.reads(sheet));
            x.lay(0, 0, 0);
            seen.add(x.lay(0, 2, sheet));
            seePlaces(x, 0, seen);
            seen.add(x.mark(sheet, 0, NONE));
        }
    }

    private static void seePlaces(LogLetters x, int slot, List<Integer> seen) {
        for (int place = 0; place <= 24; place++) {
            seen.add(x.item(slot, place));
        }
    }

    /** The numbers that wait are seen only by what is due: scenes let the weeks told of three weeks wait. */
    private static void waiting(LogLetters x, List<Integer> seen) {
        seen.add(x.check(3));
        seen.add(x.count(7));
    }

    private static void tape(LogLetters x, List<Integer> seen) {
        int text = x.text();
        seen.add(text);
        seen.add(x.textTold(text, 0));
        seen.add(x.textTold(text, 1));
        seen.add(x.fee());
        seen.add(x.fine(0));
        seen.add(x.told(8, 5));
    }

    private static void will(LogLetters x, List<Integer> seen) {
        for (int n = 0; n <= 20; n += 5) {
            for (int what = 0; what < 15; what++) {
                seen.add(x.behind(n, what));
            }
        }
        seen.add(x.whole());
    }

    private static void image(LogLetters x, List<Integer> seen) {
        seen.add(x.back());
        river(x, seen);
        reaches(x, seen);
    }
}
