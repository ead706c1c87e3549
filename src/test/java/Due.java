/** Counts answers that are as due, and prints those that are not. */
final class Due {
    private int right;
    private int wrong;
    private String part = "";

    void part(String name) {
        part = name;
    }

    void is(String call, long got, long want) {
        if (got == want) {
            right++;
        } else {
            wrong++;
            if (wrong <= 50) {
                System.out.println(part + ": " + call + " answered " + got + ", due is " + want);
            }
        }
    }

    void is(String call, boolean got, boolean want) {
        is(call, got ? 1 : 0, want ? 1 : 0);
    }

    int wrong() {
        return wrong;
    }

    void end(String test) {
        System.out.println(test + ": " + right + " answers as due, " + wrong + " not");
        if (wrong != 0) {
            System.exit(1);
        }
    }

    /** Feeds bytes; behind the last one 'a' fills what is left of the twenty. */
    static void feed(SecondTry x, String text) {
        for (int at = 0; at < text.length(); at += 20) {
            int[] w = words(text, at);
            x.feed(w[0], w[1], w[2], w[3], w[4]);
        }
    }

    static int[] words(String text, int at) {
        int[] words = new int[5];
        for (int i = 0; i < 20; i++) {
            int sign = at + i < text.length() ? text.charAt(at + i) : 'a';
            words[i / 4] = words[i / 4] << 8 | sign;
        }
        return words;
    }

    static int law(SecondTry x, String text) {
        feed(x, text);
        return x.law(text.length());
    }

    static int plan(SecondTry x, int p, String text) {
        feed(x, text);
        return x.plan(p, text.length());
    }

    static String bytes(int... values) {
        StringBuilder text = new StringBuilder();
        for (int value : values) {
            text.append((char) value);
        }
        return text.toString();
    }
}
