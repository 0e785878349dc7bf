/** Terms, part 4: TEXTS and THE TAPE, at the ends. */
public final class TextEdgeTest {
    private static final int FULL = -1000000003, NONE = -1000000005;
    private static final int MIN = Integer.MIN_VALUE, MAX = Integer.MAX_VALUE;
    private static final String[] KEYS = {"drift", "fee", "fine"}, NAMES = {"fmr", "sw", "lm"};
    private static final Due d = new Due();

    public static void main(String[] args) {
        textsAtMost();
        tapeAtMost();
        tapeIsUsedUp();
        tapeOfAllItsBytes();
        keys();
        numbersOfDigits();
        namesOfEachKey();
        eachByteForAPiece();
        eachByteForASign();
        eachByteForAKey();
        blanks();
        wordsThatNeedABlank();
        oneTestAlone();
        oneTestAtEachDepth();
        rowsOfSigns();
        loosestFirst();
        bracketsOpen();
        bangsOpen();
        eachByItself();
        theEndTooSoon();
        theFirstFault();
        intsWrap();
        dividedByZero();
        cutTowardsZero();
        testsGiveOneOrZero();
        namesGive();
        withoutText();
        toldLast();
        numbersAndNames();
        d.end();
    }

    private static LogLetters fresh(String about) {
        d.about("terms 4: " + about);
        return new LogLetters();
    }

    private static void taken(String text) {
        d.due("'" + text + "'", Due.text(new LogLetters(), text), 0);
    }

    private static void fault(String text, int place) {
        LogLetters x = new LogLetters();
        d.due("'" + text + "'", Due.text(x, text), -100 - place);
        d.due("TEXTS behind '" + text + "'", x.count(6), 0);
        d.due("bytes behind '" + text + "'", x.count(8), 0);
    }

    private static void gives(String what, int due) {
        LogLetters x = new LogLetters();
        d.due("'" + what + "'", Due.text(x, "fee " + what), 0);
        d.due("'" + what + "' gives", x.fee(), due);
    }

    // ---- how many

    private static void textsAtMost() {
        LogLetters x = fresh("TEXTS, 14 at most, numbered from 0");
        for (int number = 0; number < 14; number++) {
            d.due("how many", x.count(6), number);
            d.due("its number", Due.text(x, "fee " + number), number);
        }
        d.due("the fifteenth", Due.text(x, "fee 14"), FULL);
        d.due("how many", x.count(6), 14);
        d.due("fee()", x.fee(), 13);
        d.due("the fifteenth, with a FAULT", Due.text(x, "fee 14+"), -107);
    }

    private static void tapeAtMost() {
        LogLetters x = fresh("THE TAPE, 96 bytes at most");
        for (int many = 12; many <= 96; many += 12) {
            d.due("how many bytes", x.feed(0, 0, 0), many);
        }
        d.due("more than 96", x.feed(0, 0, 0), FULL);
        for (int many = 96; many >= 85; many--) {
            d.due("trim(" + many + ")", x.trim(many), many);
            d.due("more than 96", x.feed(0, 0, 0), FULL);
            d.due("how many bytes", x.count(8), many);
        }
        d.due("trim(84)", x.trim(84), 84);
        d.due("96 again", x.feed(0, 0, 0), 96);
    }

    private static void tapeIsUsedUp() {
        LogLetters x = fresh("an act that reads it uses it up, whatever it answers");
        String[] texts = {"fee 1", "fee", "fee (1", "x", "", "fee 12345"};
        for (String text : texts) {
            Due.text(x, text);
            d.due("bytes behind '" + text + "'", x.count(8), 0);
            d.due("text() again", x.text(), -100);
        }
        for (int number = 1; number < 14; number++) {
            d.due("text", Due.text(x, "fee 2"), number);
        }
        d.due("text, full", Due.text(x, "fee 3"), FULL);
        d.due("bytes", x.count(8), 0);
    }

    private static void tapeOfAllItsBytes() {
        LogLetters x = fresh("a TEXT of 96 bytes");
        String most = "fee 2" + "*1".repeat(44) + "+17";
        d.due("bytes", most.length(), 96);
        d.due("text", Due.text(x, most), 0);
        d.due("fee()", x.fee(), 19);
        d.due("one blank ahead, one less behind", Due.text(x, " " + most.substring(0, 95)), 1);
        d.due("fee()", x.fee(), 3);
        d.due("a FAULT at the last byte", Due.text(x, most.substring(0, 95) + "s"), -195);
        d.due("a FAULT at the end", Due.text(x, most.substring(0, 95) + "/"), -196);
        d.due("96 blanks", Due.text(x, " ".repeat(96)), -196);
        d.about("terms 4: the highest byte of each number first");
        x.feed(0x66656520, 0x39382a37, 0x36352b34);
        d.due("text", x.text(), 2);
        d.due("fee()", x.fee(), 98 * 765 + 4);
    }

    // ---- words

    private static void keys() {
        d.about("terms 4: KEY: drift | fee | fine");
        for (int key = 0; key < 3; key++) {
            LogLetters x = new LogLetters();
            d.due(KEYS[key], Due.text(x, KEYS[key] + " 1"), 0);
            d.due("its KEY", x.textTold(0, 0), key);
            fault(KEYS[key] + "s 1", 0);
            fault(KEYS[key].substring(1) + " 1", 0);
            fault(KEYS[key].substring(0, KEYS[key].length() - 1) + " 1", 0);
            fault("  " + KEYS[key] + KEYS[key] + " 1", 2);
            fault(KEYS[key] + " " + KEYS[key] + " 1", KEYS[key].length() + 1);
            fault(KEYS[key].toUpperCase() + " 1", 0);
            fault("1 " + KEYS[key], 0);
        }
        fault("f 1", 0);
        fault("s", 0);
        fault("(fee 1)", 0);
        fault("!fee 1", 0);
    }

    private static void numbersOfDigits() {
        d.about("terms 4: NUMBER (1 to 4 digits)");
        int[][] numbers = {{0, 1}, {9, 1}, {10, 2}, {99, 2}, {100, 3}, {999, 3}, {1000, 4}, {9999, 4}};
        for (int[] n : numbers) {
            gives(String.valueOf(n[0]), n[0]);
        }
        gives("00", 0);
        gives("0000", 0);
        gives("0009", 9);
        gives("0123", 123);
        d.about("terms 4: a NUMBER of more than 4 digits");
        fault("fee 10000", 4);
        fault("fee 00000", 4);
        fault("fee 9999999999", 4);
        fault("fee 1+00000+1", 6);
        fault("fee (!12345", 6);
        fault("fee " + "1".repeat(92), 4);
        fault("fee   12345", 6);
    }

    private static void namesOfEachKey() {
        d.about("terms 4: NAMES, each one letter");
        for (int key = 0; key < 3; key++) {
            int place = KEYS[key].length() + 1;
            for (char c = 'a'; c <= 'z'; c++) {
                String text = KEYS[key] + " " + c;
                if (NAMES[key].indexOf(c) >= 0) {
                    taken(text);
                    fault(text + c, place);
                    fault(KEYS[key] + " 1+" + c + NAMES[key], place + 2);
                } else {
                    fault(text, place);
                }
            }
            fault(KEYS[key] + " " + NAMES[key], place);
            fault(KEYS[key] + " " + NAMES[key].toUpperCase().charAt(0), place);
        }
    }

    // ---- bytes

    private static void eachByteForAPiece() {
        d.about("terms 4: each byte where a PIECE is due");
        for (int c = 0; c < 256; c++) {
            String text = "fee " + (char) c;
            if (c >= '0' && c <= '9' || c == 's' || c == 'w') {
                taken(text);
            } else {
                fault(text, c == ' ' || c == '(' || c == '!' ? 5 : 4);
            }
        }
    }

    private static void eachByteForASign() {
        d.about("terms 4: each byte where a sign may follow");
        for (int c = 0; c < 256; c++) {
            boolean isSign = "|&<=>+-*/".indexOf(c) >= 0;
            if (c == ' ' || c >= '0' && c <= '9') {
                taken("fee 1" + (char) c);
            } else {
                fault("fee 1" + (char) c, isSign ? 6 : 5);
            }
            if (c == ' ') {
                taken("fee s  ");
            } else {
                fault("fee s " + (char) c, isSign ? 7 : 6);
            }
            if (c == ')') {
                taken("fee (1)");
            } else if (c != ' ' && !(c >= '0' && c <= '9')) {
                fault("fee (1" + (char) c, isSign ? 7 : 6);
            }
        }
    }

    private static void eachByteForAKey() {
        d.about("terms 4: each byte where the KEY is due");
        for (int c = 0; c < 256; c++) {
            if (c == ' ') {
                taken(" fee 1");
            } else {
                fault((char) c + " fee 1", 0);
                fault((char) c + "fee 1", 0);
                boolean goesOn = c >= 'a' && c <= 'z';
                fault("fee" + (char) c, goesOn ? 0 : c == '(' || c == '!' ? 4 : 3);
            }
        }
    }

    private static void blanks() {
        d.about("terms 4: blanks between words and signs, and at the ends");
        gives("1+2*3", 7);
        gives("  1  +  2  *  3  ", 7);
        gives(" ! ( 0 ) ", 1);
        taken("fee(1)");
        taken("fee!1");
        taken("   fee 1   ");
        taken("fee (s)+w");
        d.about("terms 4: a blank parts two words");
        fault("fee 1 2", 6);
        fault("fee s w", 6);
        fault("fe e 1", 0);
        fault("fee 12 34", 7);
        d.about("terms 4: no other byte is a blank");
        for (int c : new int[] {0, 9, 10, 11, 12, 13, 31, 33 + 94, 133, 160, 255}) {
            fault("fee" + (char) c + "1", 3);
            fault("fee 1" + (char) c, 5);
        }
    }

    private static void wordsThatNeedABlank() {
        d.about("terms 4: a word right behind another one needs a blank");
        fault("fee1", 3);
        fault("drift1", 5);
        fault("fee12345", 3);
        fault("fee 1s", 5);
        fault("fee s1", 5);
        fault("fee 1+2w", 7);
        fault("fee 12345s", 4);
        fault("fee 1234s", 8);
        fault("fee (s1)", 6);
        fault("1fee 1", 0);
        d.about("terms 4: behind a sign it needs none");
        taken("fee(s)");
        taken("fee s+1");
        taken("fee 1+s");
        taken("fee !s");
    }

    // ---- signs

    private static void oneTestAlone() {
        d.about("terms 4: TEST: SUM [ (< | = | >) SUM ]");
        for (String first : new String[] {"<", "=", ">"}) {
            taken("fee 1" + first + "2");
            for (String second : new String[] {"<", "=", ">"}) {
                fault("fee 1" + first + "2" + second + "3", 7);
                fault("fee 1" + first + second + "2", 6);
                fault("fee 1" + first + "2+3*4" + second + "3", 11);
                fault("fee 1" + first + "(2)" + second + "3", 9);
                taken("fee (1" + first + "2)" + second + "3");
                taken("fee 1" + first + "(2" + second + "3)");
                taken("fee 1" + first + "2&3" + second + "4");
                taken("fee 1" + first + "2|3" + second + "4");
                fault("fee 1" + first + "2&3" + second + "4" + first + "5", 11);
                fault("fee 1" + first + "2|3" + second + "4" + first + "5", 11);
            }
        }
    }

    private static void oneTestAtEachDepth() {
        for (int depth = 0; depth <= 8; depth++) {
            d.about("terms 4: one TEST, at depth " + depth);
            String open = "fee " + "(".repeat(depth);
            String close = ")".repeat(depth);
            taken(open + "1<2" + close);
            taken(open + "1<2&3<4" + close);
            taken(open + "1<2|3<4" + close);
            taken(open + "1<2&3<4|5<6&7<8" + close);
            fault(open + "1<2<3" + close, open.length() + 3);
            fault(open + "1<2&3<4<5" + close, open.length() + 7);
            fault(open + "1<2+3<4" + close, open.length() + 5);
            fault(open + "1<2*3<4" + close, open.length() + 5);
            if (depth < 8) {
                taken(open + "(1<2)<(3<4)" + close);
                taken(open + "1<(2<3)" + close);
                fault(open + "1<(2<3)<4" + close, open.length() + 7);
                fault(open + "1<(2<3<4)" + close, open.length() + 6);
                fault(open + "1<(2<3&4<5)<6" + close, open.length() + 11);
            }
        }
    }

    private static void rowsOfSigns() {
        for (char sign : "|&+-*/".toCharArray()) {
            d.about("terms 4: { .. }: as many as there are, with " + sign);
            String row = "fee 1" + (sign + "1").repeat(45);
            taken("fee 1");
            taken("fee 1" + sign + "1");
            taken(row + " ");
            fault(row + sign, 96);
            fault("fee " + sign + "1", 4);
            fault("fee 1" + sign + sign + "1", 6);
            fault("fee 1" + sign + ")", 6);
            fault("fee (" + sign + "1)", 5);
        }
    }

    private static void loosestFirst() {
        d.about("terms 4: the loosest first");
        gives("1|1&0", 1);
        gives("0&1|1", 1);
        gives("(1|1)&0", 0);
        gives("1&2=2", 1);
        gives("(1&2)=2", 0);
        gives("2=1+1", 1);
        gives("3-1=1+1", 1);
        gives("1+2*3", 7);
        gives("2*3+1", 7);
        gives("(1+2)*3", 9);
        gives("7-2-1", 4);
        gives("7-2+1", 6);
        gives("40/4/5", 2);
        gives("40/4*5", 50);
        gives("7*5/4", 8);
        gives("!0+1", 2);
        gives("!(0+1)", 0);
        gives("!1*5", 0);
        gives("!0*5", 5);
        gives("!0=1", 1);
        gives("!!3", 1);
    }

    // ---- depths

    private static void bracketsOpen() {
        d.about("terms 4: the ninth ( that would be open within others");
        for (int depth = 1; depth <= 8; depth++) {
            gives("(".repeat(depth) + "7" + ")".repeat(depth), 7);
        }
        for (int depth = 9; depth <= 12; depth++) {
            fault("fee " + "(".repeat(depth) + "7" + ")".repeat(depth), 12);
        }
        d.about("terms 4: the eighth ( again, where one has been closed");
        gives("(".repeat(8) + "1" + ")".repeat(7) + "+1)", 2);
        gives("(".repeat(8) + "1" + ")".repeat(8) + "+" + "(".repeat(8) + "2" + ")".repeat(8), 3);
        gives("(".repeat(7) + "(1)+(2)+(3)" + ")".repeat(7), 6);
        d.about("terms 4: the ninth (, where some have been closed");
        fault("fee ((((((((1+(2", 14);
        fault("fee ((((((((1)+((2", 16);
        fault("fee (1)+(((((((((2", 16);
    }

    private static void bangsOpen() {
        d.about("terms 4: the ninth ! likewise");
        for (int depth = 1; depth <= 8; depth++) {
            gives("!".repeat(depth) + "7", depth % 2 == 0 ? 1 : 0);
        }
        for (int depth = 9; depth <= 12; depth++) {
            fault("fee " + "!".repeat(depth) + "7", 12);
        }
        gives("!!!!!!!!1+!!!!!!!!1", 2);
        gives("!!!!!!!!(1)+!!!!!!!!1", 2);
        gives("!!!!(!!!!1+!!!!1)+!!!!!!!!1", 2);
        fault("fee !!!!!!!!1+!!!!!!!!!1", 22);
        fault("fee !!!!(!!!!!1)", 13);
        fault("fee !!!!(!!!!1+!!!!!1)", 19);
        fault("fee !(!(!(!(!(!(!(!!1", 19);
        fault("fee !(!(!(!(!(!(!(!1+!!1", 22);
    }

    private static void eachByItself() {
        d.about("terms 4: ( and !, each by itself");
        gives("!(".repeat(8) + "7" + ")".repeat(8), 1);
        gives("(".repeat(8) + "!".repeat(8) + "7" + ")".repeat(8), 1);
        gives("!".repeat(8) + "(".repeat(8) + "7" + ")".repeat(8), 1);
        gives("!".repeat(7) + "(".repeat(8) + "!7" + ")".repeat(8), 1);
        fault("fee " + "(".repeat(8) + "!".repeat(9), 20);
        fault("fee " + "!".repeat(8) + "(".repeat(9), 20);
        fault("fee " + "!".repeat(8) + "(".repeat(8) + "!", 20);
        fault("fee " + "(".repeat(8) + "!".repeat(8) + "(", 20);
        gives("!".repeat(8) + "(1)+(!1)+" + "(".repeat(8) + "!0" + ")".repeat(8), 2);
    }

    // ---- faults

    private static void theEndTooSoon() {
        d.about("terms 4: the end, if it comes too soon");
        fault("", 0);
        fault(" ", 1);
        fault("fee", 3);
        fault("fee ", 4);
        fault("drift   ", 8);
        fault("fee 1+", 6);
        fault("fee 1+  ", 8);
        fault("fee 1<", 6);
        fault("fee 1&", 6);
        fault("fee !", 5);
        fault("fee ! ", 6);
        fault("fee (", 5);
        fault("fee (1", 6);
        fault("fee (1 ", 7);
        fault("fee ((1)", 8);
        fault("fee ((1)+2", 10);
        fault("fee (1<2", 8);
    }

    private static void theFirstFault() {
        d.about("terms 4: the first word or sign with which no TEXT goes on");
        fault("fee x y 12345", 4);
        fault("fee 1 + + x", 8);
        fault("x (", 0);
        fault("fee 1) + x", 5);
        fault("fee ()", 5);
        fault("fee (1))", 7);
        fault("fee (1)(2)", 7);
        fault("fee (1) 2", 8);
        fault("fee 1 (2)", 6);
        fault("fee 1!", 5);
        fault("fee (1)!", 7);
        fault("fee 1 !=2", 6);
        fault("fee 1<=2", 6);
        fault("fee 1&&2", 6);
        fault("fee 1||2", 6);
        fault("fee -1", 4);
        fault("fee 1+-1", 6);
        fault("fee !+1", 5);
        fault("fee !)", 5);
        fault("fee 1 fee 2", 6);
        fault("fee 1.5", 5);
    }

    // ---- what they give

    private static void intsWrap() {
        d.about("terms 4: ints wrap");
        gives("8192*8192*32", MIN);
        gives("8192*8192*32-1", MAX);
        gives("8192*8192*32-1+1", MIN);
        gives("0-8192*8192*32", MIN);
        gives("0-8192*8192*32-1", MAX);
        gives("8192*8192*64", 0);
        gives("9999*9999*9999*9999", (int) (9999L * 9999 * 9999 * 9999));
        gives("8192*8192*32/(0-1)", MIN);
        gives("(8192*8192*32-1)/(0-1)", -MAX);
        gives("8192*8192*32<0", 1);
        gives("8192*8192*32-1>0", 1);
        gives("8192*8192*32=0-8192*8192*32", 1);
    }

    private static void dividedByZero() {
        d.about("terms 4: / is 0 by 0");
        gives("1/0", 0);
        gives("0/0", 0);
        gives("(0-5)/0", 0);
        gives("9999/(3-3)", 0);
        gives("5+7/0*3", 5);
        gives("7/0/0", 0);
        gives("7/(1/0)", 0);
        gives("8192*8192*32/0", 0);
        LogLetters x = fresh("/ is 0 by 0, in each KEY");
        x.log(0, 0, 50);
        x.rule(2, 0);
        Due.text(x, "drift 5+m/f");
        d.due("DRIFTS", x.told(0, 5), 5);
        Due.text(x, "fine m/l-1");
        d.due("fine(0)", x.fine(0), -1);
        Due.text(x, "fee 8-1/s");
        d.due("fee()", x.fee(), 8);
    }

    private static void cutTowardsZero() {
        d.about("terms 4: / cuts towards 0");
        gives("7/2", 3);
        gives("(0-7)/2", -3);
        gives("7/(0-2)", -3);
        gives("(0-7)/(0-2)", 3);
        gives("1/2", 0);
        gives("(0-1)/2", 0);
        gives("9/10", 0);
        gives("10/10", 1);
    }

    private static void testsGiveOneOrZero() {
        d.about("terms 4: tests, & | ! give 1 or 0 (what is not 0 is true)");
        int[][] pairs = {{1, 2}, {2, 2}, {2, 1}};
        for (int[] p : pairs) {
            gives(p[0] + "<" + p[1], p[0] < p[1] ? 1 : 0);
            gives(p[0] + "=" + p[1], p[0] == p[1] ? 1 : 0);
            gives(p[0] + ">" + p[1], p[0] > p[1] ? 1 : 0);
            gives("0-" + p[0] + "<0-" + p[1], p[0] > p[1] ? 1 : 0);
        }
        String[] sides = {"0", "1", "2", "9999", "(0-1)", "(0-2)"};
        for (String a : sides) {
            for (String b : sides) {
                gives(a + "&" + b, a.equals("0") || b.equals("0") ? 0 : 1);
                gives(a + "|" + b, a.equals("0") && b.equals("0") ? 0 : 1);
            }
            gives("!" + a, a.equals("0") ? 1 : 0);
        }
        gives("5&6+1", 1);
        gives("(5&6)+1", 2);
        gives("(5|0)+1", 2);
        gives("(3>2)*5", 5);
    }

    private static void namesGive() {
        LogLetters x = fresh("what NAMES are");
        x.log(0, 25, 50);
        x.rule(2, 9);
        x.lays(0, 11);
        Due.text(x, "drift f");
        d.due("f is FLOOD", x.told(0, 5), 9);
        Due.text(x, "drift m-40");
        d.due("m is MASS", x.told(0, 5), 10);
        Due.text(x, "drift r");
        d.due("r is REACH", x.told(0, 5), 11);
        Due.text(x, "fine l");
        d.due("l is LETTER", x.fine(0), 25);
        Due.text(x, "fine m");
        d.due("m is MASS", x.fine(0), 50);
        Due.text(x, "drift 0");
        x.rule(1, 100);
        x.weeks(7);
        Due.text(x, "fee s");
        d.due("s is SAWN", x.fee(), 1);
        Due.text(x, "fee w");
        d.due("w is THE WEEK", x.fee(), 7);
        Due.text(x, "drift 0-f");
        d.due("held within, drift alone", x.told(0, 5), 0);
        Due.text(x, "fee 0-w");
        d.due("fee is not held within", x.fee(), -7);
        Due.text(x, "fine 0-m*99");
        d.due("fine is not held within", x.fine(0), -4950);
    }

    private static void withoutText() {
        LogLetters x = fresh("without a TEXT");
        x.log(0, 25, 29);
        d.due("drift: FLOOD less MASS / 10", x.told(0, 5), 1);
        d.due("fine: LETTER", x.fine(0), 25);
        d.due("fee: SAWN", x.fee(), 0);
        x.rule(1, 100);
        x.reach(0, 1, 1);
        x.weeks(1);
        d.due("fee: SAWN", x.fee(), 1);
        Due.text(x, "fee 77");
        d.due("fine, by a TEXT of another KEY", x.fine(0), 25);
        Due.text(x, "fine 78");
        x.rule(2, 9);
        d.due("drift, by TEXTS of other KEYS", x.told(0, 5), 7);
        d.due("fine(0)", x.fine(0), 78);
    }

    private static void toldLast() {
        LogLetters x = fresh("of a KEY that TEXT counts that was told last");
        x.log(0, 4, 9);
        for (int key = 0; key < 3; key++) {
            d.due("why(" + key + ")", x.why(key), NONE);
        }
        int[] keys = {0, 1, 2, 2, 1, 0, 0, 1, 1, 2, 0, 2, 1, 0};
        int[] last = {NONE, NONE, NONE};
        for (int number = 0; number < 14; number++) {
            Due.text(x, KEYS[keys[number]] + " " + (number > 11 ? 0 : number));
            last[keys[number]] = number;
            for (int key = 0; key < 3; key++) {
                d.due("why(" + key + ") behind " + number, x.why(key), last[key]);
            }
        }
        d.due("drift", x.told(0, 5), 0);
        d.due("fee", x.fee(), 0);
        d.due("fine", x.fine(0), 11);
        Due.text(x, "fine 99");
        d.due("fine, the fifteenth was refused", x.fine(0), 11);
        x = fresh("one with a FAULT was not told");
        Due.text(x, "fee 5");
        Due.text(x, "fee 6 6");
        d.due("fee", x.fee(), 5);
    }

    private static void numbersAndNames() {
        LogLetters x = fresh("how many NUMBERS and NAMES");
        String[] texts = {"fee 0", "fee s", "fee ((s))", "fee !!!1", "fee 1111", "fee 1+1", "fee s*w+s/1", "fee 1" + "+s".repeat(45) + " "};
        int[] dues = {1, 1, 1, 1, 1, 2, 4, 46};
        for (int i = 0; i < texts.length; i++) {
            d.due(texts[i], Due.text(x, texts[i]), i);
            d.due("how many", x.textTold(i, 1), dues[i]);
        }
    }
}
