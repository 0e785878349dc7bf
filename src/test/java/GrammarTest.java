import java.util.ArrayList;
import java.util.LinkedHashSet;
import java.util.List;
import java.util.Random;
import java.util.Set;

/**
 * The grammar as the document writes it, in rows: a row of words and signs is a TEXT if the grammar makes it,
 * and its FAULT is the first one behind which the grammar makes nothing any more. Every row of up to five of ten
 * words and signs (one or two of each level) behind a KEY is held against that, and longer ones by lot, with all
 * signs; what a TEXT gives is worked out by parting it at its loosest sign.
 */
public final class GrammarTest {
    private static final String[][] RULES = {
        {"OR", "AND"}, {"OR", "OR", "|", "AND"},
        {"AND", "TEST"}, {"AND", "AND", "&", "TEST"},
        {"TEST", "SUM"}, {"TEST", "SUM", "<", "SUM"}, {"TEST", "SUM", "=", "SUM"}, {"TEST", "SUM", ">", "SUM"},
        {"SUM", "TERM"}, {"SUM", "SUM", "+", "TERM"}, {"SUM", "SUM", "-", "TERM"},
        {"TERM", "PIECE"}, {"TERM", "TERM", "*", "PIECE"}, {"TERM", "TERM", "/", "PIECE"},
        {"PIECE", "word"}, {"PIECE", "!", "PIECE"}, {"PIECE", "(", "OR", ")"},
    };
    private static final String[] LOOSEST_FIRST = {"|", "&", "<=>", "+-", "*/"};
    private static final String[] WORDS_AND_SIGNS = {"7", "m", "!", "(", ")", "<", "-", "/", "&", "|"};
    private static final String SIGNS = "|&<=>+-*/";
    private static final int LETTER = 3, MASS = 50;
    private static final Due d = new Due();
    private static LogLetters x = null;
    private static int calls = 0;

    /** A rule, how much of it has been gone through, and the place where that began. */
    private record Item(int rule, int dot, int from) {
        String next() {
            return dot < RULES[rule].length ? RULES[rule][dot] : null;
        }
    }

    public static void main(String[] args) {
        d.about("terms 4: every row of up to five of ten words and signs");
        go(new ArrayList<>(), new ArrayList<>(List.of(begin())), 5);
        d.about("terms 4: long rows by lot");
        Random lot = new Random(12);
        int held = 0;
        for (int i = 0; i < 6000; i++) {
            List<String> row = new ArrayList<>();
            make("OR", row, lot, 0);
            spoil(row, lot);
            held += hold(row, lot.nextInt(3) == 0 ? "" : " ") ? 1 : 0;
        }
        System.out.println(held + " long rows");
        d.due("rows that fit on the tape", held > 4000 ? 1 : 0, 1);
        d.end();
    }

    /** Each row that goes on from this one, with the sets of items that stand behind each of its places. */
    private static void go(List<String> row, List<Set<Item>> sets, int more) {
        tell(row, " ", sets);
        if (more == 0) {
            return;
        }
        for (String s : WORDS_AND_SIGNS) {
            row.add(s);
            sets.add(behind(sets, s));
            go(row, sets, more - 1);
            row.remove(row.size() - 1);
            sets.remove(sets.size() - 1);
        }
    }

    private static boolean hold(List<String> row, String between) {
        List<Set<Item>> sets = new ArrayList<>(List.of(begin()));
        for (String s : row) {
            sets.add(behind(sets, s));
        }
        return tell(row, between, sets);
    }

    private static Set<Item> begin() {
        Set<Item> first = new LinkedHashSet<>();
        first.add(new Item(0, 1, 0));
        first.add(new Item(1, 1, 0));
        return closed(List.of(), first);
    }

    private static Set<Item> behind(List<Set<Item>> sets, String s) {
        String wanted = Character.isLetterOrDigit(s.charAt(0)) ? "word" : s;
        Set<Item> next = new LinkedHashSet<>();
        for (Item i : sets.get(sets.size() - 1)) {
            if (wanted.equals(i.next())) {
                next.add(new Item(i.rule, i.dot + 1, i.from));
            }
        }
        return closed(sets, next);
    }

    /** With all rules that may begin here, and all that go on behind one that is whole. */
    private static Set<Item> closed(List<Set<Item>> sets, Set<Item> set) {
        List<Item> open = new ArrayList<>(set);
        for (int k = 0; k < open.size(); k++) {
            Item at = open.get(k);
            List<Item> found = new ArrayList<>();
            if (at.next() == null && at.from < sets.size()) {
                for (Item i : sets.get(at.from)) {
                    if (RULES[at.rule][0].equals(i.next())) {
                        found.add(new Item(i.rule, i.dot + 1, i.from));
                    }
                }
            }
            for (int rule = 0; rule < RULES.length; rule++) {
                if (RULES[rule][0].equals(at.next())) {
                    found.add(new Item(rule, 1, sets.size()));
                }
            }
            for (Item i : found) {
                if (set.add(i)) {
                    open.add(i);
                }
            }
        }
        return set;
    }

    private static boolean isWhole(Set<Item> set) {
        for (Item i : set) {
            if (i.next() == null && i.from == 0 && RULES[i.rule][0].equals("OR")) {
                return true;
            }
        }
        return false;
    }

    /** Whether it could be held against the grammar: not, if it is too long or too deep. */
    private static boolean tell(List<String> row, String between, List<Set<Item>> sets) {
        StringBuilder text = new StringBuilder("fine ");
        int fault = -1;
        int pieces = 0;
        for (int i = 0; i < row.size(); i++) {
            boolean needsOne = i > 0 && isWord(row.get(i)) && isWord(row.get(i - 1));
            text.append(i > 0 && between.isEmpty() && needsOne ? " " : between);
            if (fault < 0 && sets.get(i + 1).isEmpty()) {
                fault = text.length();
            }
            text.append(row.get(i));
            pieces += isWord(row.get(i)) ? 1 : 0;
        }
        if (text.length() > 96 || isTooDeep(row)) {
            return false;
        }
        if (fault < 0 && !isWhole(sets.get(row.size()))) {
            fault = text.length();
        }
        ask(text.toString(), row, fault, pieces);
        return true;
    }

    private static void ask(String text, List<String> row, int fault, int pieces) {
        if (x == null || calls > 490) {
            x = new LogLetters();
            x.log(0, LETTER, MASS);
            x.keep();
            calls = 2;
        }
        calls += 3 + (text.length() + 11) / 12;
        int got = Due.text(x, text);
        d.due(text, got, fault < 0 ? 0 : -100 - fault);
        if (fault < 0 && got == 0) {
            d.due("pieces of " + text, x.textTold(0, 1), pieces);
            d.due("given by " + text, x.fine(0), worth(row));
            d.due("back()", x.back(), 1);
            calls += 3;
        }
    }

    /** Where a ninth ( or ! may be open the grammar alone does not tell the FAULT: TextEdgeTest does. */
    private static boolean isTooDeep(List<String> row) {
        int depth = 0;
        int deepest = 0;
        int bangs = 0;
        for (String s : row) {
            depth += s.equals("(") ? 1 : s.equals(")") ? -1 : 0;
            deepest = Math.max(deepest, depth);
            bangs += s.equals("!") ? 1 : 0;
        }
        return deepest > 8 || bangs > 8;
    }

    private static boolean isWord(String s) {
        return Character.isLetterOrDigit(s.charAt(0));
    }

    /** What a row gives that is a TEXT: it is parted at the last of its loosest signs outside of brackets. */
    private static int worth(List<String> row) {
        for (String signs : LOOSEST_FIRST) {
            int depth = 0;
            for (int i = row.size() - 1; i > 0; i--) {
                String s = row.get(i);
                depth += s.equals(")") ? 1 : s.equals("(") ? -1 : 0;
                if (depth == 0 && signs.contains(s)) {
                    return joined(s.charAt(0), worth(row.subList(0, i)), worth(row.subList(i + 1, row.size())));
                }
            }
        }
        String first = row.get(0);
        switch (first) {
            case "!": return worth(row.subList(1, row.size())) == 0 ? 1 : 0;
            case "(": return worth(row.subList(1, row.size() - 1));
            case "m": return MASS;
            case "l": return LETTER;
            default: return Integer.parseInt(first);
        }
    }

    private static int joined(char sign, int a, int b) {
        switch (sign) {
            case '|': return a != 0 | b != 0 ? 1 : 0;
            case '&': return a != 0 & b != 0 ? 1 : 0;
            case '<': return a < b ? 1 : 0;
            case '=': return a == b ? 1 : 0;
            case '>': return a > b ? 1 : 0;
            case '+': return a + b;
            case '-': return a - b;
            case '*': return a * b;
            default: return b == 0 ? 0 : a / b;
        }
    }

    /** A row that the grammar makes, by lot, with no more than eight ( or ! in one another. */
    private static void make(String wanted, List<String> row, Random lot, int depth) {
        if (wanted.equals("word")) {
            row.add(lot.nextBoolean() ? lot.nextBoolean() ? "m" : "l" : Integer.toString(lot.nextInt(lot.nextBoolean() ? 4 : 10000)));
        } else if (SIGNS.contains(wanted) || "!()".contains(wanted)) {
            row.add(wanted);
        } else {
            List<String[]> may = new ArrayList<>();
            for (String[] rule : RULES) {
                if (rule[0].equals(wanted)) {
                    may.add(rule);
                }
            }
            boolean plain = depth > 7 || row.size() > 30 || lot.nextInt(3) > 0 && !wanted.equals("PIECE");
            String[] rule = plain ? may.get(0) : may.get(lot.nextInt(may.size()));
            for (int i = 1; i < rule.length; i++) {
                make(rule[i], row, lot, depth + (rule.length > 2 && wanted.equals("PIECE") ? 1 : 0));
            }
        }
    }

    /** In two rows of three one place is another, or left out, or comes twice. */
    private static void spoil(List<String> row, Random lot) {
        int place = lot.nextInt(row.size());
        switch (lot.nextInt(6)) {
            case 0: case 1: row.set(place, WORDS_AND_SIGNS[lot.nextInt(WORDS_AND_SIGNS.length)]); break;
            case 2: row.remove(place); break;
            case 3: row.add(place, row.get(place)); break;
            default:
        }
    }
}
