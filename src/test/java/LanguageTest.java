import java.lang.reflect.Field;
import java.lang.reflect.Method;
import java.lang.reflect.Modifier;
import java.nio.file.Files;
import java.nio.file.Path;
import java.util.ArrayList;
import java.util.List;
import java.util.TreeSet;
import java.util.regex.Matcher;
import java.util.regex.Pattern;

/** The rules of ../shared/LANGUAGE.md that can be seen from the source and the class, and the room. */
public final class LanguageTest {
    private static final Due d = new Due();
    private static final String FACE = "log/3 told/2 as/2 turns/2 set/3 lays/2 reach/3 rule/2 word/1 unword/0 deal/1 seed/1 "
        + "weeks/1 read/1 river/1 behind/2 whole/0 frees/2 lost/1 wider/2 opened/1 rolled/2 looked/3 fee/0 fine/1 "
        + "feed/3 trim/1 text/0 textTold/2 why/1 sheet/3 mark/3 pour/1 reads/1 copy/5 lay/3 ask/2 item/2 rest/2 "
        + "tell/1 check/1 keep/0 back/0 count/1";

    public static void main(String[] args) throws Exception {
        Path file = Path.of("src/main/java/LogLetters.java");
        String source = Files.readString(file);
        face();
        words(bare(source));
        lengths(source);
        classes();
        room();
        d.end();
    }

    /** Without comments, texts and signs in quotes. */
    private static String bare(String source) {
        return source.replaceAll("(?s)/\\*.*?\\*/", "").replaceAll("//[^\n]*", "")
            .replaceAll("\"[^\"\n]*\"", "TEXT").replaceAll("'[^'\n]*'", "SIGN");
    }

    private static void face() {
        d.about("rule 1");
        TreeSet<String> due = new TreeSet<>(List.of(FACE.split(" ")));
        TreeSet<String> there = new TreeSet<>();
        TreeSet<String> names = new TreeSet<>();
        List<String> others = new ArrayList<>();
        for (Method m : LogLetters.class.getDeclaredMethods()) {
            if (Modifier.isPublic(m.getModifiers())) {
                there.add(m.getName() + "/" + m.getParameterCount());
                names.add(m.getName());
                d.due(m.getName() + " answers an int", m.getReturnType() == int.class ? 1 : 0, 1);
            } else {
                others.add(m.getName());
                d.due(m.getName() + " is private", Modifier.isPrivate(m.getModifiers()) ? 1 : 0, 1);
            }
        }
        System.out.println(there.size() + " public methods");
        d.due("the methods of the face", there.equals(due) ? 1 : 0, 1);
        for (Class<?> c : LogLetters.class.getDeclaredClasses()) {
            for (Method m : c.getDeclaredMethods()) {
                others.add(m.getName());
            }
        }
        for (String name : others) {
            d.due(name + " bears the name of a public method", names.contains(name) ? 1 : 0, 0);
        }
        int constants = 0;
        for (Field f : LogLetters.class.getDeclaredFields()) {
            constants += Modifier.isPublic(f.getModifiers()) ? 1 : 0;
            d.due(f.getName() + " is public or private", Modifier.isPublic(f.getModifiers()) || Modifier.isPrivate(f.getModifiers()) ? 1 : 0, 1);
        }
        d.due("public constants", constants, 8);
        d.due("public constructors", LogLetters.class.getConstructors().length, 1);
        d.due("final", Modifier.isFinal(LogLetters.class.getModifiers()) ? 1 : 0, 1);
    }

    private static void words(String bare) {
        d.about("rules 3 to 6, 10 and 13");
        String[] none = {"\\bthrow\\b", "\\bthrows\\b", "\\btry\\b", "\\bcatch\\b", "\\bsynchronized\\b", "\\bassert\\b", "->", "::",
            "\\bimport\\b", "\\bpackage\\b", "\\bprotected\\b", "\\bhashCode\\b", "\\btoString\\b", "\\bfinalize\\b", "\\bnative\\b",
            "\\bstatic \\{", "\\w+Exact\\b", "\\b(Integer|Long|Math)\\.[A-Z]", "\\bMath\\.random\\b", "\\bThread\\b", "\\bSystem\\.(?!arraycopy)", "\\bdouble\\b", "\\bfloat\\b",
            "TEXT \\+", "\\+ TEXT", "\\bvar\\b", "\\bwhile \\(true\\)", "\\bfor \\(;;\\)", "\\[\\]\\[\\]\\[\\]"};
        for (String pattern : none) {
            Matcher m = Pattern.compile(pattern).matcher(bare);
            d.due("there is " + pattern, m.find() ? 1 : 0, 0);
        }
        d.due("signs beyond 127", bare.chars().anyMatch(c -> c > 127) ? 1 : 0, 0);
        Matcher fields = Pattern.compile("\\bstatic (?!final )[^(=;]*[=;]").matcher(bare);
        d.due("static fields that are not final", fields.find() ? 1 : 0, 0);
    }

    private static void lengths(String source) {
        d.about("rule 11");
        String[] lines = source.split("\n");
        Pattern head = Pattern.compile("^( {4}| {8})(?! )[\\w\\[\\] ]+\\(([^)]*)\\) \\{$");
        for (int i = 0; i < lines.length; i++) {
            Matcher m = head.matcher(lines[i]);
            if (m.find() && !lines[i].trim().matches("(if|for|while|switch|else).*")) {
                int end = i;
                while (end < lines.length && !lines[end].equals(m.group(1) + "}")) {
                    end++;
                }
                d.due("too long: " + lines[i].trim(), end - i > 60 ? 1 : 0, 0);
                d.due("too many parameters: " + lines[i].trim(), m.group(2).split(",").length > 7 ? 1 : 0, 0);
            }
        }
    }

    private static void classes() {
        d.about("rules 2, 5 and 11");
        List<Class<?>> all = new ArrayList<>(List.of(LogLetters.class.getDeclaredClasses()));
        d.due("more than twelve classes", all.size() + 1 > 12 ? 1 : 0, 0);
        for (Class<?> c : all) {
            d.due(c.getName() + " is static", Modifier.isStatic(c.getModifiers()) ? 1 : 0, 1);
            d.due(c.getName() + " holds classes", c.getDeclaredClasses().length, 0);
        }
        all.add(LogLetters.class);
        for (Class<?> c : all) {
            int fields = 0;
            for (Field f : c.getDeclaredFields()) {
                if (Modifier.isStatic(f.getModifiers())) {
                    d.due(f.getName() + " is final", Modifier.isFinal(f.getModifiers()) ? 1 : 0, 1);
                } else {
                    fields++;
                }
            }
            d.due("too many fields in " + c.getName(), fields > 20 ? 1 : 0, 0);
        }
    }

    /** A run of 512 calls may make some 600,000 objects and 7.3 million elements: no call but text() makes any. */
    private static void room() {
        d.about("rule 12, the room");
        com.sun.management.ThreadMXBean meter = (com.sun.management.ThreadMXBean) java.lang.management.ManagementFactory.getThreadMXBean();
        long me = Thread.currentThread().getId();
        dearest(new LogLetters(), 50);
        LogLetters x = new LogLetters();
        long before = meter.getThreadAllocatedBytes(me);
        dearest(x, 512);
        long made = meter.getThreadAllocatedBytes(me) - before;
        System.out.println("512 calls of the dearest made " + made + " bytes");
        d.due("too much is made", made > 100000 ? 1 : 0, 0);
        before = meter.getThreadAllocatedBytes(me);
        LogLetters y = new LogLetters();
        made = meter.getThreadAllocatedBytes(me) - before;
        System.out.println("an object is " + made + " bytes");
        d.due("too much is made", made > 20000 || y.count(0) != 0 ? 1 : 0, 0);
        String longest = "fee 1" + "+1".repeat(45) + " ";
        before = meter.getThreadAllocatedBytes(me);
        for (int i = 0; i < 51; i++) {
            Due.text(y, longest);
            y.back();
        }
        made = meter.getThreadAllocatedBytes(me) - before;
        System.out.println("51 long texts made " + made + " bytes");
        d.due("too much is made", made > 200000 ? 1 : 0, 0);
    }

    private static void dearest(LogLetters x, int calls) {
        Due.text(x, "drift (f>8)+!(f>m/7)*(r<6)");
        x.deal(12);
        x.word(1);
        x.rule(1, 1);
        x.sheet(0, 0, 24);
        x.lays(0, 13);
        x.keep();
        for (int i = 0; i < calls; i++) {
            switch (i % 10) {
                case 0: x.rolled(0, 40); break;
                case 1: x.frees(40, 0); break;
                case 2: x.lost(40); break;
                case 3: x.wider(40, 0); break;
                case 4: x.looked(0, 3, 0); break;
                case 5: x.whole(); break;
                case 6: x.opened(60); break;
                case 7: x.check(30); break;
                case 8: x.lay(i % 5, 2, 0); break;
                default: x.back();
            }
        }
    }
}
