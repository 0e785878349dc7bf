import java.lang.reflect.Method;
import java.lang.reflect.Modifier;
import java.util.ArrayList;
import java.util.List;
import java.util.Map;
import java.util.Random;
import java.util.TreeMap;

/** Long runs of calls by lot: what LogLetters answers is what the model answers. */
public final class ModelTest {
    private static final int RUNS = 400, CALLS = 300;
    private static final int NONE = -1000000005;
    private final Random lot;
    private final LogLetters x = new LogLetters();
    private final Model model = new Model();
    private final StringBuilder told = new StringBuilder();
    private final Map<String, Method[]> methods;
    private boolean wrong = false;

    private ModelTest(long seed, Map<String, Method[]> methods) {
        lot = new Random(seed);
        this.methods = methods;
    }

    public static void main(String[] args) throws Exception {
        Map<String, Method[]> methods = new TreeMap<>();
        for (Method m : LogLetters.class.getDeclaredMethods()) {
            if (Modifier.isPublic(m.getModifiers())) {
                methods.put(m.getName(), new Method[] {m, Model.class.getMethod(m.getName(), m.getParameterTypes())});
            }
        }
        long from = args.length > 0 ? Long.parseLong(args[0]) : 1;
        int wrong = 0;
        for (long seed = from; seed < from + RUNS && wrong < 3; seed++) {
            ModelTest run = new ModelTest(seed, methods);
            run.go();
            if (run.wrong) {
                wrong++;
                System.out.println("run " + seed + ":\n" + run.told);
            }
        }
        System.out.println(wrong == 0 ? "all runs by lot are as the model" : wrong + " runs are not as the model");
        if (wrong != 0) {
            System.exit(1);
        }
    }

    private int call(String name, int... args) throws Exception {
        Integer[] boxed = new Integer[args.length];
        for (int i = 0; i < args.length; i++) {
            boxed[i] = args[i];
        }
        int got = (Integer) methods.get(name)[0].invoke(x, (Object[]) boxed);
        int want = (Integer) methods.get(name)[1].invoke(model, (Object[]) boxed);
        told.append("  ").append(name).append(java.util.Arrays.toString(args)).append(" answered ").append(got).append('\n');
        if (got != want) {
            told.append("  due is ").append(want).append('\n');
            wrong = true;
        }
        return want;
    }

    private void go() throws Exception {
        int logs = lot.nextInt(13);
        for (int i = 0; i < logs && lot.nextInt(4) > 0; i++) {
            call("log", lot.nextInt(6), lot.nextInt(5), 1 + lot.nextInt(50));
        }
        List<String> names = new ArrayList<>(methods.keySet());
        for (int i = 0; i < CALLS && !wrong; i++) {
            switch (lot.nextInt(14)) {
                case 0: law(); break;
                case 1: told(); break;
                case 2: image(); break;
                case 3: row(); break;
                case 4: case 5: thought(); break;
                default:
                    String name = names.get(lot.nextInt(names.size()));
                    call(name, some(name));
            }
        }
        for (int what = 0; what < 10 && !wrong; what++) {
            call("count", what);
        }
    }

    /** Arguments that are mostly right, sometimes at an edge, sometimes wild. */
    private int[] some(String name) {
        int count = methods.get(name)[0].getParameterCount();
        int[] args = new int[count];
        int[] most = mostOf(name);
        for (int i = 0; i < count; i++) {
            int dice = lot.nextInt(40);
            if (dice == 0) {
                int[] wild = {Integer.MIN_VALUE, Integer.MAX_VALUE, NONE, -1, 0, 100000, -100000, 65535};
                args[i] = wild[lot.nextInt(wild.length)];
            } else if (dice == 1) {
                args[i] = -1;
            } else if (dice == 2) {
                args[i] = most[i] + 1;
            } else {
                args[i] = lot.nextInt(Math.max(1, most[i] + 1));
            }
        }
        if (name.equals("seed") || name.equals("lay") && args[1] == 3 || name.equals("rest") && lot.nextBoolean()) {
            args[count == 3 ? 2 : count - 1] = lot.nextInt();
        }
        return args;
    }

    private static int[] mostOf(String name) {
        switch (name) {
            case "log": return new int[] {5, 25, 50};
            case "told": return new int[] {11, 7};
            case "as": case "turns": return new int[] {11, 5};
            case "set": return new int[] {11, 2, 25};
            case "lays": return new int[] {11, 13};
            case "reach": return new int[] {11, 1, 4};
            case "rule": return new int[] {2, 9};
            case "word": return new int[] {5};
            case "deal": return new int[] {12};
            case "weeks": return new int[] {6};
            case "read": return new int[] {11};
            case "river": return new int[] {4};
            case "behind": return new int[] {20, 14};
            case "frees": case "wider": return new int[] {40, 1};
            case "lost": return new int[] {40};
            case "opened": return new int[] {60};
            case "rolled": return new int[] {11, 40};
            case "looked": return new int[] {3, 11, 1};
            case "fine": return new int[] {11};
            case "trim": return new int[] {96};
            case "textTold": return new int[] {13, 1};
            case "why": return new int[] {2};
            case "sheet": return new int[] {3, 1, 24};
            case "mark": return new int[] {3, 23, 14};
            case "pour": case "reads": return new int[] {3};
            case "copy": return new int[] {3, 8, 3, 8, 8};
            case "lay": return new int[] {4, 3, 3};
            case "ask": return new int[] {4, 5};
            case "item": return new int[] {4, 23};
            case "rest": return new int[] {4, 12};
            case "tell": return new int[] {12};
            case "check": return new int[] {30};
            case "count": return new int[] {9};
            default: return new int[] {255, 255, 255};
        }
    }

    private void law() throws Exception {
        int key = lot.nextInt(3);
        String names = List.of("fmr", "sw", "lm").get(key);
        String text = gap(true) + List.of("drift", "fee", "fine").get(key) + gap(lot.nextInt(12) == 0) + expression(names, 0);
        if (lot.nextInt(3) == 0) {
            text = spoilt(text);
        }
        if (text.length() > 96) {
            text = text.substring(0, 96);
        }
        call("trim", 0);
        for (int at = 0; at < text.length(); at += 12) {
            call("feed", Due.four(text, at), Due.four(text, at + 4), Due.four(text, at + 8));
        }
        call("trim", text.length());
        told.append("  '").append(text).append("'\n");
        call("text");
        call("fee");
        call("fine", lot.nextInt(12));
        call("told", lot.nextInt(12), 5);
    }

    private String gap(boolean maybeNone) {
        return " ".repeat(lot.nextInt(3) + (maybeNone ? 0 : 1));
    }

    private String expression(String names, int depth) {
        StringBuilder e = new StringBuilder(piece(names, depth));
        int more = lot.nextInt(depth == 0 ? 5 : 3);
        String signs = lot.nextInt(4) == 0 ? "|&<=>+-*/" : "|&+-*/";
        for (int i = 0; i < more; i++) {
            e.append(lot.nextInt(5) == 0 ? " " : "").append(signs.charAt(lot.nextInt(signs.length())));
            e.append(lot.nextInt(5) == 0 ? " " : "").append(piece(names, depth));
        }
        return e.toString();
    }

    private String piece(String names, int depth) {
        int dice = lot.nextInt(10);
        if (dice < 2 && depth < 10) {
            return "(" + expression(names, depth + 1) + ")";
        }
        if (dice == 2 && lot.nextInt(4) == 0) {
            return "!(".repeat(lot.nextInt(10)) + "1";
        }
        if (dice == 2) {
            return "!".repeat(lot.nextInt(20) == 0 ? 9 : 1 + lot.nextInt(3)) + piece(names, depth);
        }
        if (dice < 6) {
            return String.valueOf(names.charAt(lot.nextInt(names.length())));
        }
        return String.valueOf(lot.nextInt(new int[] {3, 13, 200, 10001}[lot.nextInt(4)]));
    }

    private String spoilt(String text) {
        StringBuilder s = new StringBuilder(text);
        int at = lot.nextInt(s.length());
        char[] chars = "()!|&<=>+-*/ 0179fmrswlxA%\t\u00a0\u00ff\0".toCharArray();
        char c = chars[lot.nextInt(chars.length)];
        switch (lot.nextInt(3)) {
            case 0: s.setCharAt(at, c); break;
            case 1: s.insert(at, c); break;
            default: s.deleteCharAt(at);
        }
        return s.toString();
    }

    /** Numbers that are the weeks told, or nearly so. */
    private void told() throws Exception {
        int n = 1 + lot.nextInt(30);
        call("check", 1);
        List<Integer> due = model.weeksTold(n);
        for (int i = 0; i < due.size(); i++) {
            call("tell", due.get(i) + (lot.nextInt(200) == 0 ? 1 : 0));
        }
        if (lot.nextInt(5) == 0) {
            call("tell", 0);
        }
        call("check", lot.nextInt(10) == 0 ? n + 1 : n);
    }

    private void image() throws Exception {
        call(lot.nextInt(3) > 0 ? "keep" : "back");
        if (lot.nextInt(6) == 0) {
            call("deal", 1 + lot.nextInt(12));
        }
    }

    /** A sheet that is nearly what will be. */
    private void row() throws Exception {
        int sheet = lot.nextInt(4);
        int log = lot.nextInt(12);
        int n = lot.nextInt(25);
        call("sheet", sheet, lot.nextInt(2), n);
        boolean byLogs = lot.nextBoolean();
        for (int k = 0; k < n; k++) {
            int v = byLogs ? call("told", k, 3) : call("behind", k, 3 + log);
            call("mark", sheet, k, lot.nextInt(9) == 0 ? NONE : lot.nextInt(12) == 0 ? lot.nextInt() % 70000 : v);
        }
        call("looked", sheet, log, lot.nextInt(2));
        call("reads", sheet);
        if (lot.nextInt(3) == 0) {
            call("pour", sheet);
        }
    }

    private void thought() throws Exception {
        int n = 1 + lot.nextInt(40);
        call("whole");
        call("frees", n, lot.nextInt(2));
        call("lost", n);
        call("wider", n, lot.nextInt(2));
        call("opened", n);
        call("rolled", lot.nextInt(12), n);
        call("behind", n, lot.nextInt(15));
        if (lot.nextInt(3) == 0) {
            call("lays", lot.nextInt(12), lot.nextInt(4) == 0 ? 13 : lot.nextInt(12));
        }
    }
}
