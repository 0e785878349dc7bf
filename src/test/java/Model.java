import java.util.ArrayList;
import java.util.HashMap;
import java.util.List;
import java.util.Map;

/**
 * The document once more, as plainly as the Java library lets it be said and without regard to room
 * or speed: what LogLetters answers is held against it.
 */
public final class Model {
    static final int BAD = -1000000001, NO = -1000000002, FULL = -1000000003, NONE = -1000000005,
        NOTHING = -1000000011, KIND = -1000000012, INDEX = -1000000013, SIZE = -1000000014;

    record Log(int kind, int letter, int mass, int reach, int came) {
        Log at(int r) {
            return new Log(kind, letter, mass, r, came);
        }

        boolean onRiver() {
            return reach < 12;
        }

        List<Integer> kinds() {
            return switch (kind) {
                case 0 -> List.of(0);
                case 1 -> List.of(1, 0);
                case 2 -> List.of(2, 0);
                case 3 -> List.of(3, 1, 0);
                case 4 -> List.of(4, 2, 0);
                default -> List.of(5, 0);
            };
        }

        int worth(int as) {
            return switch (as) {
                case 0 -> mass;
                case 1 -> worth(0) + 7;
                case 2 -> 99 - mass;
                case 3 -> 2 * worth(1);
                case 4 -> worth(2) - 5;
                default -> 1;
            };
        }

        int claimed(int as, int saw) {
            return switch (as) {
                case 0 -> saw;
                case 1 -> claimed(0, saw);
                case 2 -> claimed(0, saw) + 10;
                case 3 -> claimed(1, saw) / 2;
                default -> 0;
            };
        }
    }

    interface Tree {
        int value(Map<Character, Integer> names);
    }

    record Text(int key, int pieces, Tree tree) { }

    static final class State implements Cloneable {
        List<Log> logs = new ArrayList<>();
        int[] room = {4, 4, 4, 4, 4, 4, 4, 4, 4, 4, 4, 4};
        boolean[] boom = new boolean[12];
        List<Integer> word = new ArrayList<>();
        List<Text> texts = new ArrayList<>();
        int flood = 3, saw = 0, dry = 0, sawn = 0, week = 0, z = 1;

        State twin() {
            State t = new State();
            t.logs.addAll(logs);
            t.room = room.clone();
            t.boom = boom.clone();
            t.word.addAll(word);
            t.texts.addAll(texts);
            t.flood = flood;
            t.saw = saw;
            t.dry = dry;
            t.sawn = sawn;
            t.week = week;
            t.z = z;
            return t;
        }

        int draw() {
            z = (int) (z * 1103515245L + 12345L);
            return (int) ((z & 0xffffffffL) / 256);
        }

        int latest(int key) {
            int found = NONE;
            for (int i = 0; i < texts.size(); i++) {
                found = texts.get(i).key == key ? i : found;
            }
            return found;
        }

        int drifts(Log log, int as) {
            switch (as) {
                case 0:
                    if (latest(0) == NONE) {
                        return Math.max(flood - log.mass / 10, 0);
                    }
                    int v = texts.get(latest(0)).tree.value(Map.of('f', flood, 'm', log.mass, 'r', log.reach));
                    return v < 0 ? 0 : v > 12 ? 12 : v;
                case 1: return drifts(log, 0) / 2;
                case 2: return drifts(log, 0) + 1;
                case 3: return flood < 5 ? 0 : drifts(log, 1);
                case 4: return Math.min(drifts(log, 2), 3);
                default: return 0;
            }
        }

        int come() {
            return (int) logs.stream().filter(l -> l.reach == 12).count();
        }

        int holds(int reach) {
            return (int) logs.stream().filter(l -> l.reach == reach).count();
        }

        void oneWeek() {
            flood = Math.max(draw() % 10 - dry, 0);
            List<Integer> order = new ArrayList<>();
            for (int r = 11; r >= 0; r--) {
                for (int i = 0; i < logs.size(); i++) {
                    if (logs.get(i).reach == r) {
                        order.add(i);
                    }
                }
            }
            for (int i : order) {
                int steps = drifts(logs.get(i), logs.get(i).kind);
                while (steps-- > 0) {
                    Log l = logs.get(i);
                    if (l.reach == 12 || boom[l.reach]) {
                        break;
                    }
                    if (l.reach == 11) {
                        logs.set(i, new Log(l.kind, l.letter, l.mass, 12, come() + 1));
                    } else if (holds(l.reach + 1) < room[l.reach + 1]) {
                        logs.set(i, l.at(l.reach + 1));
                    } else {
                        break;
                    }
                }
            }
            if (saw > 0 && !logs.isEmpty()) {
                int which = draw() % logs.size();
                Log l = logs.get(which);
                if (l.onRiver() && draw() % 100 < l.claimed(l.kind, saw)) {
                    logs.set(which, l.at(13));
                    sawn++;
                }
            }
            week++;
        }

        State behind(int n) {
            State t = twin();
            for (int i = 0; i < n; i++) {
                t.oneWeek();
            }
            return t;
        }

        State without(int log) {
            State t = twin();
            t.logs.set(log, t.logs.get(log).at(13));
            return t;
        }

        int spelt() {
            int sum = 0;
            for (int letter = 0; letter < 26; letter++) {
                int wanted = 0;
                int there = 0;
                for (int l : word) {
                    wanted += l == letter ? 1 : 0;
                }
                for (Log l : logs) {
                    there += l.reach == 12 && l.letter == letter ? 1 : 0;
                }
                sum += Math.min(wanted, there);
            }
            return sum;
        }
    }

    private State now = new State();
    private State image = null;
    private StringBuilder tape = new StringBuilder();
    private final Float[][] sheets = new Float[4][];
    private final int[] sorts = {-1, -1, -1, -1};
    private final Object[] slots = new Object[5];
    private List<Integer> waiting = new ArrayList<>();

    private static boolean in(int v, int low, int high) {
        return low <= v && v <= high;
    }

    private boolean isLog(int log) {
        return in(log, 0, now.logs.size() - 1);
    }

    public int log(int kind, int letter, int mass) {
        if (!in(kind, 0, 5) || !in(letter, 0, 25) || !in(mass, 1, 50)) return BAD;
        if (now.logs.size() == 12) return FULL;
        now.logs.add(new Log(kind, letter, mass, 0, 0));
        return now.logs.size() - 1;
    }

    public int told(int log, int what) {
        if (!isLog(log) || !in(what, 0, 7)) return BAD;
        Log l = now.logs.get(log);
        int[] all = {l.kind, l.letter, l.mass, l.reach, l.came, now.drifts(l, l.kind), l.claimed(l.kind, now.saw), l.worth(l.kind)};
        return all[what];
    }

    public int as(int log, int kind) {
        if (!isLog(log) || !in(kind, 0, 5)) return BAD;
        return now.logs.get(log).kinds().contains(kind) ? now.logs.get(log).mass : KIND;
    }

    public int turns(int log, int kind) {
        if (!isLog(log) || !in(kind, 0, 5)) return BAD;
        Log l = now.logs.get(log);
        now.logs.set(log, new Log(kind, l.letter, l.mass, l.reach, l.came));
        return l.kind;
    }

    public int set(int log, int what, int v) {
        if (!isLog(log) || !in(what, 1, 2) || !(what == 1 ? in(v, 0, 25) : in(v, 1, 50))) return BAD;
        Log l = now.logs.get(log);
        now.logs.set(log, new Log(l.kind, what == 1 ? v : l.letter, what == 2 ? v : l.mass, l.reach, l.came));
        return what == 1 ? l.letter : l.mass;
    }

    public int lays(int log, int reach) {
        if (!isLog(log) || !in(reach, 0, 13) || reach == 12) return BAD;
        Log l = now.logs.get(log);
        if (l.reach == 12) return NO;
        now.logs.set(log, l.at(reach));
        return l.reach;
    }

    public int reach(int reach, int what, int v) {
        if (!in(reach, 0, 11) || !in(what, 0, 1) || !(what == 0 ? in(v, 1, 12) : in(v, 0, 1))) return BAD;
        int was = what == 0 ? now.room[reach] : now.boom[reach] ? 1 : 0;
        if (what == 0) now.room[reach] = v;
        else now.boom[reach] = v == 1;
        return was;
    }

    public int rule(int what, int v) {
        if (!in(what, 0, 2) || !in(v, 0, what == 1 ? 100 : 9)) return BAD;
        int was = what == 0 ? now.dry : what == 1 ? now.saw : now.flood;
        if (what == 0) now.dry = v;
        if (what == 1) now.saw = v;
        if (what == 2) now.flood = v;
        return was;
    }

    public int word(int letter) {
        if (!in(letter, 0, 25)) return BAD;
        if (now.word.size() == 12) return FULL;
        now.word.add(letter);
        return now.word.size();
    }

    public int unword() {
        int was = now.word.size();
        now.word.clear();
        return was;
    }

    public int deal(int n) {
        if (!in(n, 1, 12)) return BAD;
        int came = 0;
        while (came < n && now.logs.size() < 12) {
            int kind = now.draw() % 6;
            int letter = now.draw() % 26;
            now.logs.add(new Log(kind, letter, 1 + now.draw() % 50, 0, 0));
            came++;
        }
        return came;
    }

    public int seed(int v) {
        int was = now.z;
        now.z = v;
        return was;
    }

    public int weeks(int n) {
        if (!in(n, 1, 60)) return BAD;
        int was = now.come();
        for (int i = 0; i < n && now.week < 9999; i++) now.oneWeek();
        return now.come() - was;
    }

    public int read(int k) {
        if (!in(k, -1, 11)) return BAD;
        if (k == -1) return now.come();
        for (Log l : now.logs) if (l.came == k + 1) return l.letter;
        return NONE;
    }

    public int river(int what) {
        switch (what) {
            case 0: return now.spelt();
            case 1: return (int) now.logs.stream().filter(l -> l.onRiver() && now.holds(l.reach) >= now.room[l.reach]).count();
            case 2: return now.sawn;
            case 3: return now.come();
            case 4:
                int bits = 0;
                for (int i = 0; i < now.logs.size(); i++) bits += now.logs.get(i).onRiver() ? 1 << i : 0;
                return bits;
            default: return BAD;
        }
    }

    public int behind(int n, int what) {
        if (!in(n, 0, 60) || !in(what, 0, 2 + now.logs.size())) return BAD;
        State t = now.behind(n);
        return what == 0 ? t.come() : what == 1 ? t.sawn : what == 2 ? t.spelt() : t.logs.get(what - 3).reach;
    }

    public int whole() {
        State t = now.twin();
        for (int n = 0; n <= 200; n++) {
            if (t.spelt() == t.word.size()) return n;
            t.oneWeek();
        }
        return NONE;
    }

    public int frees(int n, int what) {
        if (!in(n, 1, 40) || !in(what, 0, 1)) return BAD;
        int best = NONE;
        int most = -1;
        for (int i = 0; i < now.logs.size(); i++) {
            if (now.logs.get(i).onRiver()) {
                int come = now.without(i).behind(n).come();
                if (come > most) {
                    most = come;
                    best = i;
                }
            }
        }
        return best == NONE ? NONE : what == 0 ? best : most;
    }

    public int lost(int n) {
        if (!in(n, 1, 40)) return BAD;
        int bits = 0;
        for (int i = 0; i < now.logs.size(); i++) {
            if (now.logs.get(i).onRiver() && now.without(i).behind(n).spelt() >= now.behind(n).spelt()) bits += 1 << i;
        }
        return bits;
    }

    public int wider(int n, int what) {
        if (!in(n, 1, 40) || !in(what, 0, 1)) return BAD;
        int best = 0;
        int most = -1;
        for (int r = 0; r < 12; r++) {
            State t = now.twin();
            t.room[r] += 2;
            int come = t.behind(n).come();
            if (come > most) {
                most = come;
                best = r;
            }
        }
        return what == 0 ? best : most;
    }

    public int opened(int n) {
        if (!in(n, 1, 60)) return BAD;
        State t = now.twin();
        t.boom = new boolean[12];
        return t.behind(n).come() - now.behind(n).come();
    }

    public int rolled(int log, int n) {
        if (!isLog(log) || !in(n, 1, 40)) return BAD;
        if (now.logs.get(log).reach != 13) return NO;
        for (int k = n - 1; k >= 0; k--) {
            State t = now.behind(k);
            t.logs.set(log, t.logs.get(log).at(0));
            if (t.behind(n - k).logs.get(log).reach == 12) return k;
        }
        return NONE;
    }

    public int looked(int sheet, int log, int what) {
        if (!in(sheet, 0, 3) || !isLog(log) || !in(what, 0, 1)) return BAD;
        if (sheets[sheet] == null) return NOTHING;
        int best = -1;
        long least = Long.MAX_VALUE;
        for (int mass = 46; mass >= 1; mass -= 5) {
            State t = now.twin();
            Log l = t.logs.get(log);
            t.logs.set(log, new Log(l.kind, l.letter, mass, l.reach, l.came));
            long sum = 0;
            for (int k = 0; k < sheets[sheet].length; k++) {
                if (sheets[sheet][k] != null) sum += Math.abs(t.behind(k).logs.get(log).reach - (long) (float) sheets[sheet][k]);
            }
            if (sum <= least) {
                least = sum;
                best = mass;
            }
        }
        return what == 0 ? best : (int) least;
    }

    public int fee() {
        return now.latest(1) == NONE ? now.sawn : now.texts.get(now.latest(1)).tree.value(Map.of('s', now.sawn, 'w', now.week));
    }

    public int fine(int log) {
        if (!isLog(log)) return BAD;
        Log l = now.logs.get(log);
        return now.latest(2) == NONE ? l.letter : now.texts.get(now.latest(2)).tree.value(Map.of('l', l.letter, 'm', l.mass));
    }

    public int feed(int a, int b, int c) {
        if (tape.length() + 12 > 96) return FULL;
        for (int v : new int[] {a, b, c}) {
            tape.append((char) (v >> 24 & 255)).append((char) (v >> 16 & 255)).append((char) (v >> 8 & 255)).append((char) (v & 255));
        }
        return tape.length();
    }

    public int trim(int n) {
        if (!in(n, 0, tape.length())) return BAD;
        tape.setLength(n);
        return n;
    }

    public int text() {
        Parser parser = new Parser(tape.toString());
        tape = new StringBuilder();
        Text text;
        try {
            text = parser.text();
        } catch (Fault fault) {
            return -100 - fault.place;
        }
        if (now.texts.size() == 14) return FULL;
        now.texts.add(text);
        return now.texts.size() - 1;
    }

    public int textTold(int text, int what) {
        if (!in(text, 0, now.texts.size() - 1) || !in(what, 0, 1)) return BAD;
        return what == 0 ? now.texts.get(text).key : now.texts.get(text).pieces;
    }

    public int why(int key) {
        return in(key, 0, 2) ? now.latest(key) : BAD;
    }

    public int sheet(int sheet, int sort, int n) {
        if (!in(sheet, 0, 3) || !in(sort, -1, 1)) return BAD;
        if (sort >= 0 && n > 24) return BAD;
        if (sort >= 0 && n < 0) return SIZE;
        sorts[sheet] = sort;
        sheets[sheet] = sort < 0 ? null : new Float[n];
        if (sort < 0) return 0;
        java.util.Arrays.fill(sheets[sheet], 0f);
        return n;
    }

    public int mark(int sheet, int place, int v) {
        if (!in(sheet, 0, 3)) return BAD;
        if (sheets[sheet] == null) return NOTHING;
        if (!in(place, 0, sheets[sheet].length - 1)) return INDEX;
        if (sorts[sheet] == 0) {
            if (v == NONE) return KIND;
            int low = v & 65535;
            sheets[sheet][place] = (float) (low > 32767 ? low - 65536 : low);
            return 1;
        }
        if (v != NONE && !in(v, -99999, 99999)) return BAD;
        sheets[sheet][place] = v == NONE ? null : Float.valueOf(v);
        return 1;
    }

    public int pour(int sheet) {
        if (!in(sheet, 0, 3)) return BAD;
        if (sheets[sheet] == null) return NOTHING;
        int[] was = now.room.clone();
        int other = 0;
        for (int r = 0; r < 12; r++) {
            if (r < sheets[sheet].length && sheets[sheet][r] != null) {
                now.room[r] = (int) Math.min(12f, Math.max(1f, sheets[sheet][r]));
            }
            other += was[r] != now.room[r] ? 1 : 0;
        }
        return other;
    }

    public int reads(int sheet) {
        if (!in(sheet, 0, 3)) return BAD;
        if (sheets[sheet] == null) return NOTHING;
        for (int k = 0; k < sheets[sheet].length; k++) {
            if (sheets[sheet][k] != null && !(isLog(k) && now.logs.get(k).reach == sheets[sheet][k])) return k;
        }
        return NONE;
    }

    public int copy(int from, int place, int to, int at, int many) {
        if (!in(from, 0, 3) || !in(to, 0, 3)) return BAD;
        if (sheets[from] == null || sheets[to] == null) return NOTHING;
        if (sorts[from] != sorts[to]) return KIND;
        if (place < 0 || at < 0 || many < 0) return INDEX;
        if ((long) place + many > sheets[from].length || (long) at + many > sheets[to].length) return INDEX;
        Float[] were = sheets[from].clone();
        for (int i = 0; i < many; i++) sheets[to][at + i] = were[place + i];
        return many;
    }

    public int lay(int slot, int thing, int k) {
        if (!in(slot, 0, 4) || !in(thing, 0, 3)) return BAD;
        if (thing == 1 && !isLog(k)) return BAD;
        if (thing == 2 && !in(k, 0, 3)) return BAD;
        if (thing == 2 && sheets[k] == null) return NOTHING;
        Object was = slots[slot];
        slots[slot] = thing == 0 ? null : thing == 1 ? now.logs.get(k) : thing == 2 ? sheets[k].clone() : (Object) k;
        return was == null ? 0 : was instanceof Log ? 1 : was instanceof Float[] ? 2 : 3;
    }

    public int ask(int slot, int kind) {
        if (!in(slot, 0, 4) || !in(kind, 0, 5)) return BAD;
        if (slots[slot] == null) return NOTHING;
        if (!(slots[slot] instanceof Log l) || !l.kinds().contains(kind)) return KIND;
        return l.worth(l.kind);
    }

    public int item(int slot, int place) {
        if (!in(slot, 0, 4)) return BAD;
        if (slots[slot] == null) return NOTHING;
        if (!(slots[slot] instanceof Float[] row)) return KIND;
        if (!in(place, 0, row.length - 1)) return INDEX;
        return row[place] == null ? KIND : (int) (float) row[place];
    }

    public int rest(int slot, int n) {
        if (!in(slot, 0, 4)) return BAD;
        if (slots[slot] == null) return NOTHING;
        if (!(slots[slot] instanceof Integer v)) return KIND;
        return n == 0 ? NO : (int) ((long) v % (long) n);
    }

    public int tell(int v) {
        if (waiting.size() == 60) return FULL;
        waiting.add(v);
        return waiting.size();
    }

    /** The weeks told of n weeks, by the image. */
    List<Integer> weeksTold(int n) {
        List<Integer> told = new ArrayList<>();
        for (int i = 1; i <= n && image != null && image.week + i <= 9999; i++) {
            State t = image.behind(i);
            told.add(t.come());
            told.add(t.logs.stream().mapToInt(Log::reach).sum());
        }
        return told;
    }

    public int check(int n) {
        List<Integer> were = waiting;
        waiting = new ArrayList<>();
        if (!in(n, 1, 30)) return BAD;
        if (image == null) return NO;
        List<Integer> due = weeksTold(n);
        if (were.equals(due)) return 0;
        int same = 0;
        while (same < were.size() && same < due.size() && were.get(same).equals(due.get(same))) same++;
        return 1 + same;
    }

    public int keep() {
        image = now.twin();
        return image.logs.size();
    }

    public int back() {
        if (image == null) return NO;
        now = image.twin();
        return now.logs.size();
    }

    public int count(int what) {
        int[] all = {now.logs.size(), now.week, now.flood, now.dry, now.saw, now.word.size(), now.texts.size(), waiting.size(), tape.length(), now.z};
        return in(what, 0, 9) ? all[what] : BAD;
    }

    static final class Fault extends Exception {
        private static final long serialVersionUID = 1;
        final int place;

        Fault(int place) {
            this.place = place;
        }
    }

    /** By open calls, one for each line of the grammar. */
    static final class Parser {
        final String all;
        int place = 0;
        int pieces = 0;
        String names = "";

        Parser(String all) {
            this.all = all;
        }

        void blanks() {
            while (place < all.length() && all.charAt(place) == ' ') place++;
        }

        /** The word or sign that is next, not gone past; "" at the end. */
        String peek() {
            blanks();
            if (place == all.length()) return "";
            String rest = all.substring(place);
            String word = rest.replaceFirst("(?s)^([a-z]+|[0-9]+|.).*$", "$1");
            return word;
        }

        boolean glued() {
            return place > 0 && String.valueOf(all.charAt(place)).matches("[a-z0-9]") && String.valueOf(all.charAt(place - 1)).matches("[a-z0-9]");
        }

        boolean takes(String signs) {
            String next = peek();
            if (next.isEmpty() || !signs.contains(next)) return false;
            place++;
            return true;
        }

        Text text() throws Fault {
            Map<String, Integer> keys = new HashMap<>(Map.of("drift", 0, "fee", 1, "fine", 2));
            String word = peek();
            if (!keys.containsKey(word)) throw new Fault(place);
            int key = keys.get(word);
            names = List.of("fmr", "sw", "lm").get(key);
            place += word.length();
            Tree tree = or(0, 0);
            if (!peek().isEmpty()) throw new Fault(place);
            return new Text(key, pieces, tree);
        }

        Tree or(int open, int nots) throws Fault {
            Tree left = and(open, nots);
            while (takes("|")) {
                Tree a = left;
                Tree b = and(open, nots);
                left = n -> (a.value(n) != 0 ? 1 : 0) | (b.value(n) != 0 ? 1 : 0);
            }
            return left;
        }

        Tree and(int open, int nots) throws Fault {
            Tree left = test(open, nots);
            while (takes("&")) {
                Tree a = left;
                Tree b = test(open, nots);
                left = n -> (a.value(n) != 0 ? 1 : 0) & (b.value(n) != 0 ? 1 : 0);
            }
            return left;
        }

        Tree test(int open, int nots) throws Fault {
            Tree a = sum(open, nots);
            String sign = peek();
            if (!takes("<=>")) return a;
            Tree b = sum(open, nots);
            int wanted = sign.equals("<") ? -1 : sign.equals("=") ? 0 : 1;
            return n -> Integer.compare(a.value(n), b.value(n)) == wanted ? 1 : 0;
        }

        Tree sum(int open, int nots) throws Fault {
            Tree left = term(open, nots);
            while (true) {
                String sign = peek();
                if (!takes("+-")) return left;
                Tree a = left;
                Tree b = term(open, nots);
                left = sign.equals("+") ? n -> a.value(n) + b.value(n) : n -> a.value(n) - b.value(n);
            }
        }

        Tree term(int open, int nots) throws Fault {
            Tree left = piece(open, nots);
            while (true) {
                String sign = peek();
                if (!takes("*/")) return left;
                Tree a = left;
                Tree b = piece(open, nots);
                left = sign.equals("*") ? n -> a.value(n) * b.value(n) : n -> b.value(n) == 0 ? 0 : a.value(n) / b.value(n);
            }
        }

        Tree piece(int open, int nots) throws Fault {
            String next = peek();
            int at = place;
            if (next.isEmpty() || glued()) throw new Fault(at);
            if (next.matches("[0-9]+")) {
                if (next.length() > 4) throw new Fault(at);
                place += next.length();
                pieces++;
                int v = Integer.parseInt(next);
                return n -> v;
            }
            if (next.length() == 1 && names.contains(next)) {
                place++;
                pieces++;
                char name = next.charAt(0);
                return n -> n.get(name);
            }
            if (next.equals("!") && nots < 8) {
                place++;
                Tree a = piece(open, nots + 1);
                return n -> a.value(n) == 0 ? 1 : 0;
            }
            if (next.equals("(") && open < 8) {
                place++;
                Tree a = or(open + 1, nots);
                if (!takes(")")) throw new Fault(place);
                return a;
            }
            throw new Fault(at);
        }
    }
}
