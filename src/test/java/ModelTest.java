import java.util.Random;

/** Random runs of calls, the same ones every time, on SecondTry and on the plain model side by side. */
public final class ModelTest {
    private final Due due;
    private final Random random;
    private final boolean roomy;
    private SecondTry x;
    private Model m;

    private ModelTest(Due due, long seed) {
        this.due = due;
        random = new Random(seed);
        roomy = random.nextBoolean();
    }

    public static void main(String[] args) {
        int runs = args.length > 0 ? Integer.parseInt(args[0]) : 400;
        long first = args.length > 1 ? Long.parseLong(args[1]) : 1;
        Due due = new Due();
        for (int i = 0; i < runs && due.wrong() == 0; i++) {
            due.part("seed " + (first + i));
            new ModelTest(due, first + i).run();
        }
        due.end("ModelTest");
    }

    private int below(int n) {
        return random.nextInt(n);
    }

    private boolean chance(int percent) {
        return below(100) < percent;
    }

    private void run() {
        x = new SecondTry();
        m = new Model();
        if (roomy) {
            for (int i = 0; i < 12; i++) {
                if (chance(80)) {
                    tellKind(i);
                }
            }
            for (int p = 0; p < 8; p++) {
                if (chance(70)) {
                    int coins = chance(50) ? below(100) : 99900 + below(110);
                    due.is("person", x.person(p, coins), m.person(p, coins));
                }
            }
            callLaw();
        }
        for (int i = 0; i < 150 && due.wrong() == 0; i++) {
            call();
            if (chance(20)) {
                compareAll();
            }
        }
        compareAll();
    }

    private void tellKind(int k) {
        int hours = chance(95) ? 1 + below(chance(70) ? 4 : 12) : below(15) - 1;
        int marks = chance(95) ? below(256) & below(256) : below(300) - 20;
        int needs = chance(60) ? 0 : chance(80) ? m.count(1) & (1 << Math.max(0, Math.min(k, 12))) - 1 & below(4096) & below(4096)
            : below(8192) - 10;
        due.is("kind(" + k + ", " + hours + ", " + marks + ", " + needs + ")",
            x.kind(k, hours, marks, needs), m.kind(k, hours, marks, needs));
    }

    private int k() {
        return chance(95) ? below(12) : odd();
    }

    private int p() {
        return chance(95) ? below(8) : odd();
    }

    private int odd() {
        int[] odds = {-1, -2, 8, 12, 13, 31, 32, 33, 64, Integer.MAX_VALUE, Integer.MIN_VALUE, 1 << 16, 268435456};
        return odds[below(odds.length)];
    }

    private int from(int low, int high) {
        return chance(96) ? low + below(high - low + 1) : chance(50) ? (chance(50) ? low - 1 : high + 1) : odd();
    }

    /** Bits of told kinds, most often so many at most. */
    private int someKinds(int most) {
        int told = chance(97) ? m.count(1) : below(8192) - 1;
        int bits = told & below(4096);
        for (int i = 0; i < 40 && Integer.bitCount(bits) > most; i++) {
            bits &= ~(1 << below(12));
        }
        return chance(98) ? bits : odd();
    }

    private void call() {
        switch (below(28)) {
            case 0:
                tellKind(k());
                break;
            case 1: {
                int p = p();
                int coins = from(0, chance(50) ? 50 : 99999);
                due.is("person(" + p + ", " + coins + ")", x.person(p, coins), m.person(p, coins));
                break;
            }
            case 2:
                if (chance(30)) {
                    feed(randomBytes(20));
                }
                break;
            case 3:
                callLaw();
                break;
            case 4:
            case 5:
                callPlan();
                break;
            case 6:
            case 7:
            case 8:
            case 9:
            case 10:
                for (int i = below(6); i >= 0; i--) {
                    int p = p();
                    int k = k();
                    int with = chance(50) ? -1 : p();
                    due.is("tries(" + p + ", " + k + ", " + with + ")", x.tries(p, k, with), m.tries(p, k, with));
                }
                break;
            case 11:
            case 12: {
                int p = p();
                int k = k();
                int s = p();
                due.is("cost(" + p + ", " + k + ", " + s + ")", x.cost(p, k, s), m.cost(p, k, s));
                due.is("buys(" + p + ", " + k + ", " + s + ")", x.buys(p, k, s), m.buys(p, k, s));
                break;
            }
            case 13: {
                int n = chance(80) ? from(1, 4) : from(1, 60);
                due.is("days(" + n + ")", x.days(n), m.days(n));
                break;
            }
            case 14:
            case 15: {
                int n = chance(50) ? from(1, 3) : from(1, 60);
                int what = chance(80) ? from(0, 5) : from(10, 17);
                due.is("tried(" + n + ", " + what + ")", x.tried(n, what), m.tried(n, what));
                break;
            }
            case 16: {
                int p = p();
                int k = k();
                int what = from(0, 5);
                due.is("has(" + p + ", " + k + ", " + what + ")", x.has(p, k, what), m.has(p, k, what));
                break;
            }
            case 17: {
                int k = k();
                int j = k();
                due.is("alike(" + k + ", " + j + ")", x.alike(k, j), m.alike(k, j));
                break;
            }
            case 18:
            case 19:
                callSearch();
                break;
            case 20: {
                int to = chance(98) ? someKinds(2) : odd();
                int not = someKinds(2) & (chance(95) ? ~to : -1);
                int what = from(0, 1);
                due.is("loophole(" + to + ", " + not + ", " + what + ")", x.loophole(to, not, what), m.loophole(to, not, what));
                break;
            }
            case 21:
                callJobs();
                break;
            case 22: {
                int lost = chance(50) ? from(0, 5) : from(0, 999);
                int won = chance(50) ? from(0, 3) : from(0, 999);
                int what = from(0, 1);
                due.is("rivals(" + lost + ", " + won + ", " + what + ")", x.rivals(lost, won, what), m.rivals(lost, won, what));
                break;
            }
            case 23:
            case 24:
                callHistories();
                break;
            case 25:
                callGameAndCourt();
                break;
            case 26:
                if (chance(50)) {
                    due.is("keep()", x.keep(), m.keep());
                } else {
                    due.is("undo()", x.undo(), m.undo());
                }
                break;
            default:
                callCheck();
        }
    }

    private void feed(String text) {
        for (int at = 0; at < text.length(); at += 20) {
            int[] w = Towns.words(text, at);
            due.is("feed", x.feed(w[0], w[1], w[2], w[3], w[4]), m.feed(w[0], w[1], w[2], w[3], w[4]));
        }
    }

    private String randomBytes(int n) {
        StringBuilder text = new StringBuilder();
        for (int i = 0; i < n; i++) {
            text.append((char) below(chance(80) ? 12 : 256));
        }
        return text.toString();
    }

    /** Most often the tape is emptied first, so that the text comes to stand first on it. */
    private void clearTape() {
        if (m.tape.size() > 0 && chance(97)) {
            due.is("law(1)", x.law(1), m.law(1));
        }
    }

    private void callLaw() {
        clearTape();
        String text = law();
        if (chance(20)) {
            text = spoil(text, ";acfv(k=0)[]!&|<>=+-*/%0123456789hxjymdpqnow ");
        }
        feed(text);
        int n = chance(97) ? text.length() : from(1, 240);
        due.is("law(" + n + ") of " + text, x.law(n), m.law(n));
    }

    private void callPlan() {
        clearTape();
        String text = plan(chance(98) ? 3 : 4);
        if (chance(20)) {
            text = spoil(text, "(),&0123456789a");
        }
        feed(text);
        int p = p();
        int n = chance(97) ? text.length() : from(1, 80);
        due.is("plan(" + p + ", " + n + ") of " + text, x.plan(p, n), m.plan(p, n));
    }

    private String spoil(String text, String signs) {
        StringBuilder spoilt = new StringBuilder(text);
        for (int i = below(3); i >= 0 && spoilt.length() > 1; i--) {
            int at = below(spoilt.length());
            switch (below(3)) {
                case 0:
                    spoilt.deleteCharAt(at);
                    break;
                case 1:
                    spoilt.insert(at, signs.charAt(below(signs.length())));
                    break;
                default:
                    spoilt.setCharAt(at, signs.charAt(below(signs.length())));
            }
        }
        return spoilt.toString();
    }

    /** A law of the kind that makes first goes worth their coins. */
    private String searchLaw() {
        StringBuilder text = new StringBuilder();
        text.append('v').append(1 + below(4)).append('(').append(chance(50) ? "1=1" : condition(1)).append(");");
        text.append('v').append(chance(50) ? "2" : sum(0)).append("(1=1);");
        text.append('c').append(chance(50) ? "1+q" : sum(0)).append("(1=1)");
        text.append(chance(50) ? ";a(m>" + below(3) + ")" : "");
        return text.toString();
    }

    private String law() {
        if (chance(40)) {
            return searchLaw();
        }
        StringBuilder text = new StringBuilder();
        int clauses = chance(3) ? 17 : 1 + below(6);
        for (int i = 0; i < clauses; i++) {
            text.append(i > 0 ? ";" : "");
            char letter = "aavvvffcc".charAt(below(9));
            text.append(letter);
            if (letter != 'a') {
                text.append(chance(60) ? String.valueOf(below(letter == 'c' ? 30 : 5)) : sum(0));
            }
            text.append('(').append(chance(30) ? "1=1" : chance(40) && letter == 'a' ? "m>" + below(3) : condition(1)).append(')');
        }
        return text.toString();
    }

    private String condition(int open) {
        StringBuilder text = new StringBuilder(piece(open));
        for (int i = 0; i < 3 && chance(30); i++) {
            text.append(chance(50) ? "&" : "|").append(piece(open));
        }
        return text.toString();
    }

    private String piece(int open) {
        if (open < (chance(5) ? 7 : 6) && chance(20)) {
            return chance(50) ? "!" + piece(open + 1) : "(" + condition(open + 1) + ")";
        }
        return sum(open) + "<>=".charAt(below(3)) + sum(open);
    }

    private String sum(int open) {
        StringBuilder text = new StringBuilder(factor(open));
        for (int i = 0; i < 3 && chance(30); i++) {
            text.append("+-*/%".charAt(below(5))).append(factor(open));
        }
        return text.toString();
    }

    private String factor(int open) {
        if (open < (chance(5) ? 7 : 6) && chance(10)) {
            return "[" + sum(open + 1) + "]";
        }
        if (chance(45)) {
            return chance(95) ? String.valueOf(below(6)) : String.valueOf(below(chance(70) ? 100000 : 1000000));
        }
        return String.valueOf("khxjymdpqnow".charAt(below(12)));
    }

    private String plan(int open) {
        StringBuilder text = new StringBuilder();
        int steps = 1 + below(chance(90) ? 4 : 12);
        for (int i = 0; i < steps; i++) {
            text.append(i > 0 ? "," : "");
            if (open > 0 && chance(25)) {
                text.append('(').append(plan(open - 1)).append(')').append(2 + below(chance(70) ? 2 : 8));
            } else {
                text.append(chance(5) ? "0" : "").append(below(chance(95) ? 12 : 14));
                text.append(chance(25) ? "&" + below(chance(95) ? 8 : 10) : "");
            }
        }
        return text.toString();
    }

    private void callSearch() {
        int p = p();
        int kinds = someKinds(chance(50) ? 3 : chance(80) ? 4 : 5);
        int k = chance(95) ? oneOf(kinds) : k();
        int what = from(0, 1);
        if (chance(50)) {
            int goes = from(0, 3);
            due.is("soonest(" + p + ", " + kinds + ", " + k + ", " + goes + ", " + what + ")",
                x.soonest(p, kinds, k, goes, what), m.soonest(p, kinds, k, goes, what));
        } else {
            int hours = chance(70) ? below(20) : from(0, 200);
            due.is("cheapest(" + p + ", " + kinds + ", " + k + ", " + hours + ", " + what + ")",
                x.cheapest(p, kinds, k, hours, what), m.cheapest(p, kinds, k, hours, what));
        }
    }

    /** One of the bits' numbers, or of all where there are none. */
    private int oneOf(int bits) {
        int k = below(12);
        for (int i = 0; i < 12 && (bits >> k & 1) == 0; i++) {
            k = (k + 1) % 12;
        }
        return k;
    }

    private void callJobs() {
        clearTape();
        feed(toldRow(20));
        int n = chance(70) ? from(1, 4) : from(1, 8);
        int bits = m.count(2);
        for (int i = 0; i < 20 && Integer.bitCount(bits) > (chance(95) ? 3 : 4); i++) {
            bits &= ~(1 << below(8));
        }
        bits = chance(95) ? bits : odd();
        int what = chance(40) ? 10 : from(0, Math.max(1, Math.min(n, 9)) - 1);
        due.is("jobs(" + n + ", " + bits + ", " + what + ")", x.jobs(n, bits, what), m.jobs(n, bits, what));
    }

    private String toldRow(int n) {
        StringBuilder row = new StringBuilder();
        for (int i = 0; i < n; i++) {
            int k = below(12);
            for (int t = 0; t < 12 && !m.knowsKind(k) && !chance(1); t++) {
                k = (k + 1) % 12;
            }
            row.append((char) k);
        }
        return row.toString();
    }

    private void callHistories() {
        clearTape();
        int size = from(1, 4);
        int n = chance(70) ? from(0, 3) : from(0, 10);
        StringBuilder text = new StringBuilder(toldRow(Math.max(0, Math.min(size, 4))));
        for (int i = 0; i < Math.min(n, 10); i++) {
            text.append((char) below(chance(97) ? Math.max(1, Math.min(size, 4)) : 5));
            text.append((char) below(chance(98) ? 2 : 3));
        }
        feed(text.toString());
        int v = chance(80) ? below(4) : from(0, 9);
        int what = from(0, 2);
        due.is("histories(" + size + ", " + n + ", " + v + ", " + what + ")",
            x.histories(size, n, v, what), m.histories(size, n, v, what));
    }

    private void callGameAndCourt() {
        int a = from(0, 7);
        int b = from(0, 7);
        int c = from(0, 7);
        boolean moved = chance(50);
        boolean other = chance(50);
        int what = from(0, 1);
        due.is("game(" + a + ", " + b + ", " + c + ", " + moved + ", " + other + ", " + what + ")",
            x.game(a, b, c, moved, other, what), m.game(a, b, c, moved, other, what));
        int n = from(1, 9);
        int all = n >= 1 && n <= 9 ? (1 << n) - 1 : 511;
        int first = from(0, all);
        int greater = from(0, all);
        int others = from(0, all);
        int least = from(0, Math.max(0, Math.min(9, n)));
        int asked = from(0, 2);
        due.is("court(" + n + ", " + first + ", " + greater + ", " + others + ", " + least + ", " + asked + ")",
            x.court(n, first, greater, others, least, asked), m.court(n, first, greater, others, least, asked));
    }

    private void callCheck() {
        clearTape();
        int p = p();
        StringBuilder text = new StringBuilder();
        for (int k = 0; k < 12; k++) {
            int tries = m.knowsPerson(p) ? m.people[p].tries[k] : 0;
            tries += chance(95) ? 0 : 1;
            text.append((char) (chance(99) ? 0 : 128)).append((char) 0).append((char) (tries >> 8)).append((char) (tries & 255));
        }
        feed(text.toString());
        int n = from(0, 12);
        due.is("check(" + p + ", " + n + ")", x.check(p, n), m.check(p, n));
    }

    private void compareAll() {
        for (int what = -3; what <= 115; what++) {
            due.is("count(" + what + ")", x.count(what), m.count(what));
        }
        for (int p = 0; p < 8; p++) {
            for (int k = 0; k < 12; k++) {
                for (int what = 0; what <= 2; what++) {
                    due.is("has(" + p + ", " + k + ", " + what + ")", x.has(p, k, what), m.has(p, k, what));
                }
            }
        }
    }
}
