/** What the project's tests share: it prints every answer that is not the one that is due. */
final class Due {
    private int asked = 0;
    private int wrong = 0;
    private String about = "";

    void about(String what) {
        about = what;
    }

    void due(String call, long got, long want) {
        asked++;
        if (got != want) {
            wrong++;
            System.out.println(about + ": " + call + " answered " + got + ", due is " + want);
        }
    }

    void end() {
        System.out.println(wrong == 0 ? "all of " + asked + " answers are as due" : wrong + " of " + asked + " answers are not as due");
        if (wrong != 0 || asked == 0) {
            System.exit(1);
        }
    }

    /** Puts a text on the tape and nothing else, byte by char, at most 96 of them. */
    static void feed(LogLetters x, String text) {
        x.trim(0);
        for (int at = 0; at < text.length(); at += 12) {
            x.feed(four(text, at), four(text, at + 4), four(text, at + 8));
        }
        x.trim(text.length());
    }

    static int text(LogLetters x, String text) {
        feed(x, text);
        return x.text();
    }

    static int four(String text, int at) {
        int v = 0;
        for (int i = at; i < at + 4; i++) {
            v = v << 8 | (i < text.length() ? text.charAt(i) & 255 : 32);
        }
        return v;
    }

    static int nextZ(int z) {
        return z * 1103515245 + 12345;
    }
}
