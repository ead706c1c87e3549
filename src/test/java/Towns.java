/** Towns to test in, texts and bytes for their tapes, and all that can be seen of one from outside. */
final class Towns {
    private Towns() {
    }

    /** Kinds 0 to 3 of 1 to 4 hours without marks or needs, people 0 to 2 with 100 coins. */
    static SecondTry town() {
        SecondTry x = new SecondTry();
        for (int k = 0; k < 4; k++) {
            x.kind(k, k + 1, 0, 0);
        }
        for (int p = 0; p < 3; p++) {
            x.person(p, 100);
        }
        return x;
    }

    static SecondTry withLaw(Due due, String text) {
        SecondTry x = town();
        due.is("law " + text, law(x, text) > 0, true);
        return x;
    }

    /** All 12 kinds of an hour each, all 8 people with so many coins. */
    static SecondTry full(int coins) {
        SecondTry x = new SecondTry();
        for (int k = 0; k < 12; k++) {
            x.kind(k, 1, 0, 0);
        }
        for (int p = 0; p < 8; p++) {
            x.person(p, coins);
        }
        return x;
    }

    /** Feeds bytes; behind the last one 'a' fills what is left of the twenty. */
    static void feed(SecondTry x, String text) {
        for (int at = 0; at < text.length(); at += 20) {
            int[] w = words(text, at);
            x.feed(w[0], w[1], w[2], w[3], w[4]);
        }
    }

    static int[] words(String text, int at) {
        int[] words = new int[5];
        for (int i = 0; i < 20; i++) {
            int sign = at + i < text.length() ? text.charAt(at + i) : 'a';
            words[i / 4] = words[i / 4] << 8 | sign;
        }
        return words;
    }

    static String bytes(int... values) {
        StringBuilder text = new StringBuilder();
        for (int value : values) {
            text.append((char) value);
        }
        return text.toString();
    }

    static int law(SecondTry x, String text) {
        feed(x, text);
        return x.law(text.length());
    }

    static int plan(SecondTry x, int p, String text) {
        feed(x, text);
        return x.plan(p, text.length());
    }

    static int jobs(SecondTry x, int people, int what, int... row) {
        feed(x, bytes(row));
        return x.jobs(row.length, people, what);
    }

    static int histories(SecondTry x, int[] kinds, int v, int what, int... told) {
        feed(x, bytes(kinds) + bytes(told));
        return x.histories(kinds.length, told.length / 2, v, what);
    }

    /** So many tries of a kind by a person, with nobody: how many counted. */
    static int tries(SecondTry x, int p, int k, int times) {
        int counted = 0;
        for (int i = 0; i < times; i++) {
            counted += x.tries(p, k, SecondTry.NONE) == 1 ? 1 : 0;
        }
        return counted;
    }

    static void goTo(SecondTry x, int day) {
        while (x.count(0) < day) {
            x.days(Math.min(60, day - x.count(0)));
        }
    }

    /** All that counts, tries and the law tell of a town, but for the tape. */
    static String look(SecondTry x) {
        StringBuilder seen = new StringBuilder();
        for (int what = -1; what <= 110; what++) {
            seen.append(what == 4 ? 0 : x.count(what)).append(' ');
        }
        for (int k = 0; k < 12; k++) {
            for (int p = 0; p < 8; p++) {
                for (int what = 0; what <= 5; what++) {
                    seen.append(x.has(p, k, what)).append(' ');
                }
                for (int seller = 0; seller < 8; seller++) {
                    seen.append(x.cost(p, k, seller)).append(' ');
                }
            }
            for (int j = 0; j < 12; j++) {
                seen.append(x.alike(k, j)).append(' ');
            }
        }
        return seen.toString();
    }
}
