import java.util.ArrayList;
import java.util.Arrays;
import java.util.HashMap;
import java.util.List;
import java.util.Map;

/**
 * The document once more, written as plainly as can be and apart from SecondTry: laws are read from their
 * text each time they are asked, and what SecondTry finds cleverly is found here by going through all ways.
 */
final class Model {
    static final class Kind {
        int hours;
        int marks;
        int needs;
    }

    static final class Person {
        int coins;
        int[] tries = new int[12];
        int[] last = new int[12];
        int[] counted = new int[12];
        List<int[]> plan = new ArrayList<>();

        Person copy() {
            Person p = new Person();
            p.coins = coins;
            p.tries = tries.clone();
            p.last = last.clone();
            p.counted = counted.clone();
            p.plan = new ArrayList<>(plan);
            return p;
        }
    }

    /** A fault of a text, thrown from where it stands. */
    @SuppressWarnings("serial")
    static final class Fault extends RuntimeException {
        final int answer;

        Fault(int number, int place) {
            answer = -1000 * number - place;
        }
    }

    @SuppressWarnings("serial")
    static final class Refused extends RuntimeException {
    }

    final Kind[] kinds = new Kind[12];
    Person[] people = new Person[8];
    int day = 0;
    List<String> clauses = new ArrayList<>();
    List<Integer> tape = new ArrayList<>();
    Person[] keptPeople;
    int keptDay;

    boolean knowsKind(int k) {
        return k >= 0 && k < 12 && kinds[k] != null;
    }

    boolean knowsPerson(int p) {
        return p >= 0 && p < 8 && people[p] != null;
    }

    boolean kind(int k, int hours, int marks, int needs) {
        if (k < 0 || k > 11 || knowsKind(k) || hours < 1 || hours > 12 || marks < 0 || marks > 255) {
            return false;
        }
        for (int i = 0; i < 32; i++) {
            if ((needs >>> i & 1) == 1 && (i >= k || !knowsKind(i))) {
                return false;
            }
        }
        kinds[k] = new Kind();
        kinds[k].hours = hours;
        kinds[k].marks = marks;
        kinds[k].needs = needs;
        return true;
    }

    boolean person(int p, int coins) {
        if (p < 0 || p > 7 || coins < 0 || coins > 99999) {
            return false;
        }
        if (people[p] == null) {
            people[p] = new Person();
        }
        people[p].coins = coins;
        return true;
    }

    int feed(int a, int b, int c, int d, int e) {
        if (tape.size() > 240) {
            return -1;
        }
        for (int w : new int[] {a, b, c, d, e}) {
            tape.add(w >>> 24);
            tape.add(w >>> 16 & 255);
            tape.add(w >>> 8 & 255);
            tape.add(w & 255);
        }
        return tape.size();
    }

    private String take(int n) {
        StringBuilder s = new StringBuilder();
        for (int i = 0; i < n; i++) {
            s.append((char) (int) tape.get(i));
        }
        tape.clear();
        return s.toString();
    }

    // ---- the law: a reader that evaluates as it reads; with no letters told it only looks for faults

    final class LawText {
        final String text;
        int at;
        Map<Character, Integer> told;

        LawText(String text, Map<Character, Integer> told) {
            this.text = text;
            this.told = told;
        }

        char sign() {
            return at < text.length() ? text.charAt(at) : '\uffff';
        }

        void must(char c) {
            if (sign() != c) {
                throw new Fault(1, at);
            }
            at++;
        }

        void open(int open) {
            if (open == 6) {
                throw new Fault(5, at);
            }
            at++;
        }

        /** asked: whether this matters, else it is only read over. */
        boolean c(int open, boolean asked) {
            boolean holds = part(open, asked);
            while (sign() == '|') {
                at++;
                boolean next = part(open, asked && !holds);
                holds = holds || next;
            }
            return holds;
        }

        boolean part(int open, boolean asked) {
            boolean holds = piece(open, asked);
            while (sign() == '&') {
                at++;
                boolean next = piece(open, asked && holds);
                holds = holds && next;
            }
            return holds;
        }

        boolean piece(int open, boolean asked) {
            if (sign() == '!') {
                open(open);
                return !piece(open + 1, asked);
            }
            if (sign() == '(') {
                open(open);
                boolean holds = c(open + 1, asked);
                must(')');
                return holds;
            }
            int left = e(open, asked);
            char how = sign();
            if ("<>=".indexOf(how) < 0) {
                throw new Fault(1, at);
            }
            at++;
            int right = e(open, asked);
            return how == '<' ? left < right : how == '>' ? left > right : left == right;
        }

        int e(int open, boolean asked) {
            int sum = term(open, asked);
            while (sign() == '+' || sign() == '-') {
                char how = text.charAt(at++);
                int next = term(open, asked);
                sum = how == '+' ? sum + next : sum - next;
            }
            return sum;
        }

        int term(int open, boolean asked) {
            int product = factor(open, asked);
            while (sign() == '*' || sign() == '/' || sign() == '%') {
                char how = text.charAt(at++);
                int next = factor(open, asked);
                if (how == '*') {
                    product *= next;
                } else if (next == 0) {
                    if (asked && told != null) {
                        throw new Refused();
                    }
                } else {
                    product = how == '/' ? product / next : product % next;
                }
            }
            return product;
        }

        int factor(int open, boolean asked) {
            char c = sign();
            if (c == '[') {
                open(open);
                int value = e(open + 1, asked);
                must(']');
                return value;
            }
            if (c >= '0' && c <= '9') {
                int start = at;
                while (sign() >= '0' && sign() <= '9') {
                    if (at - start == 5) {
                        throw new Fault(2, at);
                    }
                    at++;
                }
                return Integer.parseInt(text.substring(start, at));
            }
            if ("khxjymdpqnow".indexOf(c) < 0) {
                throw new Fault(1, at);
            }
            at++;
            return told == null ? 0 : told.getOrDefault(c, 0);
        }
    }

    int law(int n) {
        if (n < 1 || n > 240 || tape.size() < n) {
            return -1;
        }
        LawText t = new LawText(take(n), null);
        List<String> found = new ArrayList<>();
        try {
            while (true) {
                int start = t.at;
                if ("avfc".indexOf(t.sign()) < 0) {
                    throw new Fault(1, t.at);
                }
                if (found.size() == 16) {
                    throw new Fault(4, t.at);
                }
                char letter = t.sign();
                t.at++;
                if (letter != 'a') {
                    t.e(0, true);
                }
                t.must('(');
                t.c(1, true);
                t.must(')');
                found.add(t.text.substring(start, t.at));
                if (t.at == t.text.length()) {
                    break;
                }
                t.must(';');
            }
        } catch (Fault f) {
            return f.answer;
        }
        clauses = found;
        return found.size();
    }

    private boolean conditionHolds(String clause, Map<Character, Integer> told) {
        LawText t = new LawText(clause, told);
        t.at = conditionStart(clause);
        try {
            return t.c(1, true);
        } catch (Refused r) {
            return false;
        }
    }

    /** Sums have no round brackets, so the first one opens the condition. */
    private static int conditionStart(String clause) {
        return clause.indexOf('(') + 1;
    }

    private int amount(char letter, int most, int without, Map<Character, Integer> told) {
        boolean any = false;
        for (String clause : clauses) {
            if (clause.charAt(0) == letter) {
                any = true;
                if (conditionHolds(clause, told)) {
                    LawText t = new LawText(clause, told);
                    t.at = 1;
                    int value;
                    try {
                        value = t.e(0, true);
                    } catch (Refused r) {
                        value = 0;
                    }
                    return value < 0 ? 0 : value > most ? most : value;
                }
            }
        }
        return any ? 0 : without;
    }

    private boolean lawAlike(int k, int hours, int marks, int j) {
        Map<Character, Integer> told = new HashMap<>();
        told.put('k', k);
        told.put('h', hours);
        told.put('x', marks);
        told.put('j', j);
        told.put('y', kinds[j].marks);
        told.put('m', Integer.bitCount(marks & kinds[j].marks));
        told.put('d', day);
        for (String clause : clauses) {
            if (clause.charAt(0) == 'a' && conditionHolds(clause, told)) {
                return true;
            }
        }
        return false;
    }

    private boolean isAlike(int k, int j) {
        return k == j || lawAlike(k, kinds[k].hours, kinds[k].marks, j);
    }

    private Map<Character, Integer> letters(int p, int k, int with, int n, int o, int w) {
        Map<Character, Integer> told = new HashMap<>();
        told.put('k', k);
        told.put('h', kinds[k].hours);
        told.put('x', kinds[k].marks);
        told.put('d', day);
        told.put('p', p);
        told.put('q', with);
        told.put('n', n);
        told.put('o', o);
        told.put('w', w);
        return told;
    }

    private Map<Character, Integer> lettersNow(int p, int k, int with) {
        return letters(p, k, with, people[p].tries[k], all(k), people[p].counted[k]);
    }

    private int all(int k) {
        int sum = 0;
        for (Person q : people) {
            sum += q == null ? 0 : q.tries[k];
        }
        return sum;
    }

    // ---- plans

    private static final class PlanText {
        final String text;
        int at;
        int total;

        PlanText(String text) {
            this.text = text;
        }

        char sign() {
            return at < text.length() ? text.charAt(at) : '\uffff';
        }

        boolean digit() {
            return sign() >= '0' && sign() <= '9';
        }

        List<int[]> steps(int open) {
            List<int[]> found = new ArrayList<>(step(open));
            while (sign() == ',') {
                at++;
                found.addAll(step(open));
            }
            return found;
        }

        List<int[]> step(int open) {
            int start = at;
            List<int[]> found = new ArrayList<>();
            if (sign() == '(') {
                if (open == 3) {
                    throw new Fault(5, at);
                }
                at++;
                List<int[]> inner = steps(open + 1);
                if (sign() != ')') {
                    throw new Fault(1, at);
                }
                at++;
                if (sign() < '2' || sign() > '9') {
                    throw new Fault(1, at);
                }
                int times = sign() - '0';
                at++;
                for (int i = 0; i < times; i++) {
                    found.addAll(inner);
                }
                total += found.size() - inner.size();
            } else {
                if (!digit()) {
                    throw new Fault(1, at);
                }
                at++;
                if (digit()) {
                    at++;
                }
                int k = Integer.parseInt(text.substring(start, at));
                if (k > 11) {
                    throw new Fault(3, start);
                }
                int with = -1;
                if (sign() == '&') {
                    at++;
                    if (!digit()) {
                        throw new Fault(1, at);
                    }
                    with = sign() - '0';
                    if (with > 7) {
                        throw new Fault(3, at);
                    }
                    at++;
                }
                found.add(new int[] {k, with});
                total++;
            }
            if (total > 40) {
                throw new Fault(6, start);
            }
            return found;
        }
    }

    int plan(int p, int n) {
        if (!knowsPerson(p) || n < 1 || n > 80 || tape.size() < n) {
            return -1;
        }
        PlanText t = new PlanText(take(n));
        try {
            List<int[]> steps = t.steps(0);
            if (t.at < t.text.length()) {
                throw new Fault(1, t.at);
            }
            people[p].plan = steps;
            return steps.size();
        } catch (Fault f) {
            return f.answer;
        }
    }

    // ---- tries, first goes, days

    int foundOld;
    int foundVoid;

    private int attempt(int p, int k, int with) {
        Person person = people[p];
        for (int j = 0; j < 12; j++) {
            if (kinds[j] != null && isAlike(k, j) && person.tries[j] > 0) {
                int f = amount('f', 999, 0, lettersNow(p, j, 8));
                if (f > 0 && day - person.last[j] >= f) {
                    person.tries[j] = 0;
                }
            }
        }
        foundOld = 0;
        for (int j = 0; j < 12; j++) {
            foundOld += kinds[j] != null && isAlike(k, j) ? person.tries[j] : 0;
        }
        foundVoid = amount('v', 99, 1, lettersNow(p, k, with < 0 ? 8 : with));
        int answer = foundOld < foundVoid ? 0 : needsMet(k, person.counted) ? 1 : -2;
        person.tries[k] = Math.min(999, person.tries[k] + 1);
        person.last[k] = day;
        if (answer == 1) {
            person.counted[k] = Math.min(999, person.counted[k] + 1);
        }
        return answer;
    }

    private boolean needsMet(int k, int[] counted) {
        for (int j = 0; j < 12; j++) {
            if ((kinds[k].needs >> j & 1) == 1 && counted[j] == 0) {
                return false;
            }
        }
        return true;
    }

    int tries(int p, int k, int with) {
        if (!knowsPerson(p) || !knowsKind(k) || with == p || with != -1 && !knowsPerson(with)) {
            return -1;
        }
        return attempt(p, k, with);
    }

    int cost(int p, int k, int seller) {
        if (!knowsPerson(p) || !knowsKind(k) || !knowsPerson(seller) || p == seller) {
            return -1;
        }
        return amount('c', 999, 0, lettersNow(p, k, seller));
    }

    int buys(int p, int k, int seller) {
        int c = cost(p, k, seller);
        if (c == -1) {
            return -1;
        }
        if (people[seller].tries[k] == 0) {
            return -3;
        }
        if (people[p].coins < c) {
            return -2;
        }
        people[p].coins -= c;
        people[seller].coins = Math.min(99999, people[seller].coins + c);
        people[seller].tries[k]--;
        people[p].tries[k] = Math.min(999, people[p].tries[k] + 1);
        people[p].last[k] = day;
        return c;
    }

    int[] came = new int[6];

    private void goDays(int n) {
        came = new int[] {0, 0, -2, -2, -2, 0};
        for (int i = 0; i < n && day < 9999; i++) {
            for (int p = 0; p < 8; p++) {
                int left = 12;
                while (people[p] != null && !people[p].plan.isEmpty()) {
                    int k = people[p].plan.get(0)[0];
                    int with = people[p].plan.get(0)[1];
                    if (kinds[k] == null || with == p || with >= 0 && people[with] == null) {
                        people[p].plan.remove(0);
                        continue;
                    }
                    if (kinds[k].hours > left) {
                        break;
                    }
                    people[p].plan.remove(0);
                    left -= kinds[k].hours;
                    came[5] += kinds[k].hours;
                    came[0]++;
                    int answer = attempt(p, k, with);
                    came[1] += answer == 1 ? 1 : 0;
                    if (answer == -2 && came[2] == -2) {
                        came[2] = day;
                        came[3] = p;
                        came[4] = k;
                    }
                }
            }
            day++;
        }
    }

    int days(int n) {
        if (n < 1 || n > 60) {
            return -1;
        }
        goDays(n);
        return came[1];
    }

    private static Person[] copy(Person[] from) {
        Person[] to = new Person[8];
        for (int p = 0; p < 8; p++) {
            to[p] = from[p] == null ? null : from[p].copy();
        }
        return to;
    }

    int tried(int n, int what) {
        if (n < 1 || n > 60 || !(what >= 0 && what <= 5 || what >= 10 && what <= 17 && knowsPerson(what - 10))) {
            return -1;
        }
        Person[] before = copy(people);
        int dayBefore = day;
        goDays(n);
        int answer = what < 10 ? came[what] : people[what - 10].plan.size();
        people = before;
        day = dayBefore;
        return answer;
    }

    int has(int p, int k, int what) {
        if (!knowsPerson(p) || !knowsKind(k) || what < 0 || what > 5) {
            return -1;
        }
        if (what < 3) {
            return what == 0 ? people[p].tries[k] : what == 1 ? people[p].counted[k]
                : people[p].tries[k] == 0 ? -2 : people[p].last[k];
        }
        Person[] before = copy(people);
        int answer = attempt(p, k, -1);
        people = before;
        return what == 3 ? foundOld : what == 4 ? foundVoid : answer == 1 ? 1 : 0;
    }

    int alike(int k, int j) {
        return !knowsKind(k) || !knowsKind(j) ? -1 : isAlike(k, j) ? 1 : 0;
    }

    // ---- soonest, cheapest: all orders of tries and first goes

    private int[] choice;
    private int aim;
    private int who;
    private Map<String, int[]> known;

    private boolean canChoose(int p, int bits, int k) {
        int n = 0;
        for (int j = 0; j < 32; j++) {
            if ((bits >>> j & 1) == 1) {
                n++;
                if (!knowsKind(j)) {
                    return false;
                }
            }
        }
        return knowsPerson(p) && n >= 1 && n <= 4 && k >= 0 && k < 12 && (bits >> k & 1) == 1;
    }

    private void choose(int p, int bits, int k) {
        choice = new int[Integer.bitCount(bits)];
        for (int j = 0, i = 0; j < 12; j++) {
            if ((bits >> j & 1) == 1) {
                choice[i++] = j;
            }
        }
        aim = k;
        who = p;
        known = new HashMap<>();
    }

    /** Whether a try counts for one who has these tries and counted ones on this day, alone, with nothing forgotten. */
    private boolean countsFor(int p, int k, int[] tries, int[] counted) {
        int old = 0;
        for (int j = 0; j < 12; j++) {
            old += kinds[j] != null && isAlike(k, j) ? tries[j] : 0;
        }
        int o = all(k) - people[p].tries[k] + tries[k];
        int v = amount('v', 99, 1, letters(p, k, 8, tries[k], o, counted[k]));
        return old >= v && needsMet(k, counted);
    }

    /** Least hours, then tries, from here; null if it can't be. */
    private int[] least(int[] tries, int[] counted, int[] more, int goes) {
        String key = Arrays.toString(tries) + Arrays.toString(counted) + Arrays.toString(more) + goes;
        if (known.containsKey(key)) {
            return known.get(key);
        }
        int[] best = null;
        for (int k : choice) {
            if (more[k] == 3) {
                continue;
            }
            boolean counts = countsFor(who, k, tries, counted);
            int[] nextMore = more.clone();
            nextMore[k]++;
            int[] nextTries = tries.clone();
            nextTries[k] = Math.min(999, nextTries[k] + 1);
            int[] nextCounted = counted.clone();
            nextCounted[k] = Math.min(999, nextCounted[k] + (counts ? 1 : 0));
            int[] rest = counts && k == aim ? new int[2] : least(nextTries, nextCounted, nextMore, goes);
            if (rest != null) {
                best = lesser(best, new int[] {rest[0] + kinds[k].hours, rest[1] + 1});
            }
            if (goes > 0) {
                best = lesser(best, least(nextTries, counted, nextMore, goes - 1));
            }
        }
        known.put(key, best);
        return best;
    }

    private static int[] lesser(int[] a, int[] b) {
        if (a == null || b == null) {
            return a == null ? b : a;
        }
        return b[0] < a[0] || b[0] == a[0] && b[1] < a[1] ? b : a;
    }

    int soonest(int p, int bits, int k, int goes, int what) {
        if (!canChoose(p, bits, k) || goes < 0 || goes > 3 || what < 0 || what > 1) {
            return -1;
        }
        choose(p, bits, k);
        int[] best = least(people[p].tries, people[p].counted, new int[12], goes);
        return best == null ? -2 : best[what];
    }

    int cheapest(int p, int bits, int k, int hours, int what) {
        if (!canChoose(p, bits, k) || hours < 0 || hours > 200 || what < 0 || what > 1) {
            return -1;
        }
        choose(p, bits, k);
        int[] best = null;
        for (int code = 0; code < 256; code++) {
            int[] more = new int[12];
            int bought = 0;
            int coins = 0;
            boolean can = true;
            for (int i = 0; i < 4; i++) {
                int go = code >> 2 * i & 3;
                if (go > 0) {
                    int price = i < choice.length ? leastCost(p, choice[i]) : -1;
                    can = can && price >= 0;
                    coins += price * go;
                    bought += go;
                    if (i < choice.length) {
                        more[choice[i]] = go;
                    }
                }
            }
            if (can && bought <= 3) {
                int[] tries = people[p].tries.clone();
                for (int j = 0; j < 12; j++) {
                    tries[j] = Math.min(999, tries[j] + more[j]);
                }
                known.clear();
                int[] way = least(tries, people[p].counted, more, 0);
                if (way != null && way[0] <= hours) {
                    best = lesser(best, new int[] {coins, way[0]});
                }
            }
        }
        return best == null ? -2 : best[what];
    }

    private int leastCost(int p, int k) {
        int least = -1;
        for (int s = 0; s < 8; s++) {
            if (s != p && people[s] != null && people[s].tries[k] > 0) {
                int c = cost(p, k, s);
                least = least < 0 || c < least ? c : least;
            }
        }
        return least;
    }

    int loophole(int to, int not, int what) {
        for (int j = 0; j < 32; j++) {
            if (((to | not) >>> j & 1) == 1 && !knowsKind(j) || ((to & not) >>> j & 1) == 1) {
                return -1;
            }
        }
        if (what < 0 || what > 1) {
            return -1;
        }
        List<Integer> found = new ArrayList<>();
        for (int marks = 0; marks < 256; marks++) {
            boolean fits = true;
            for (int j = 0; j < 12 && fits; j++) {
                if (((to | not) >> j & 1) == 1) {
                    fits = lawAlike(12, 1, marks, j) == ((to >> j & 1) == 1);
                }
            }
            if (fits) {
                found.add(marks);
            }
        }
        if (what == 1) {
            return found.size();
        }
        int best = -2;
        for (int bits = 8; bits >= 0; bits--) {
            for (int i = found.size() - 1; i >= 0; i--) {
                if (Integer.bitCount(found.get(i)) == bits) {
                    best = found.get(i);
                }
            }
        }
        return best;
    }

    // ---- jobs: all rows, each gone through

    int jobs(int n, int bits, int what) {
        if (n < 1 || n > 8 || tape.size() < n) {
            return -1;
        }
        int[] row = new int[n];
        boolean areKinds = true;
        for (int i = 0; i < n; i++) {
            row[i] = tape.get(i);
            areKinds &= knowsKind(row[i]);
        }
        tape.clear();
        if (!areKinds) {
            return -2;
        }
        List<Integer> workers = new ArrayList<>();
        for (int p = 0; p < 32; p++) {
            if ((bits >>> p & 1) == 1) {
                workers.add(p);
                if (!knowsPerson(p)) {
                    return -4;
                }
            }
        }
        if (workers.isEmpty() || workers.size() > 3 || what != 10 && (what < 0 || what >= n)) {
            return -4;
        }
        int best = -1;
        int[] bestRow = null;
        int[] parted = new int[n];
        Map<Integer, Integer> done = new HashMap<>();
        while (true) {
            int longest = 0;
            for (int w = 0; w < workers.size() && longest >= 0; w++) {
                int set = 0;
                for (int i = 0; i < n; i++) {
                    set |= parted[i] == w ? 1 << i : 0;
                }
                int key = w << 8 | set;
                if (!done.containsKey(key)) {
                    done.put(key, hoursOf(workers.get(w), row, set));
                }
                int hours = done.get(key);
                longest = hours < 0 ? -1 : Math.max(longest, hours);
            }
            if (longest >= 0 && (best < 0 || longest < best)) {
                best = longest;
                bestRow = parted.clone();
            }
            int i = n - 1;
            while (i >= 0 && parted[i] == workers.size() - 1) {
                parted[i--] = 0;
            }
            if (i < 0) {
                break;
            }
            parted[i]++;
        }
        return best < 0 ? -3 : what == 10 ? best : workers.get(bestRow[what]);
    }

    private int hoursOf(int p, int[] row, int set) {
        int[] tries = people[p].tries.clone();
        int[] counted = people[p].counted.clone();
        int hours = 0;
        for (int i = 0; i < row.length; i++) {
            if ((set >> i & 1) == 0) {
                continue;
            }
            int k = row[i];
            if (!needsMet(k, counted)) {
                return -1;
            }
            int voids = 0;
            boolean counts = false;
            while (!counts) {
                counts = countsFor(p, k, tries, counted);
                hours += kinds[k].hours;
                tries[k] = Math.min(999, tries[k] + 1);
                voids++;
                if (!counts && voids == 20) {
                    return -1;
                }
            }
            counted[k] = Math.min(999, counted[k] + 1);
        }
        return hours;
    }

    // ---- the rest

    int rivals(int lost, int won, int what) {
        if (lost < 0 || lost > 999 || won < 0 || won > 999 || what < 0 || what > 1) {
            return -1;
        }
        int half = lost / 2;
        // by who begins: none, the first, the second, both
        int[] first = {-1, -lost, won, -half};
        int[] second = {-1, won, -lost, -half};
        List<Integer> rows = new ArrayList<>();
        for (int r = 0; r < 4; r++) {
            if (first[r ^ 1] <= first[r] && second[r ^ 2] <= second[r]) {
                rows.add(r);
            }
        }
        return what == 0 ? rows.size() : rows.isEmpty() ? -2 : rows.get(0);
    }

    int histories(int m, int n, int v, int what) {
        if (m < 1 || m > 4 || n < 0 || n > 10 || v < 0 || v > 9 || what < 0 || what > 2 || tape.size() < m + 2 * n) {
            return -1;
        }
        List<Integer> t = new ArrayList<>(tape);
        tape.clear();
        for (int i = 0; i < m; i++) {
            if (!knowsKind(t.get(i)) || t.subList(0, i).contains(t.get(i))) {
                return -3;
            }
        }
        for (int i = 0; i < n; i++) {
            if (t.get(m + 2 * i) >= m || t.get(m + 2 * i + 1) > 1) {
                return -3;
            }
        }
        int fits = 0;
        int first = -2;
        int[] counting = new int[m];
        int[] had = new int[m];
        int number = 0;
        for (; number < Math.pow(4, m); number++) {
            int rest = number;
            for (int i = m - 1; i >= 0; i--) {
                had[i] = rest % 4;
                rest /= 4;
            }
            boolean fit = true;
            for (int i = 0; i < n && fit; i++) {
                int place = t.get(m + 2 * i);
                fit = strangerCounts(t, had, place, v) == (t.get(m + 2 * i + 1) == 1);
                had[place]++;
            }
            if (fit) {
                first = fits == 0 ? number : first;
                fits++;
                for (int i = 0; i < m; i++) {
                    counting[i] += strangerCounts(t, had, i, v) ? 1 : 0;
                }
            }
        }
        if (what < 2) {
            return what == 0 ? fits : first;
        }
        int best = 0;
        for (int i = 0; i < m; i++) {
            if (Math.max(counting[i], fits - counting[i]) < Math.max(counting[best], fits - counting[best])) {
                best = i;
            }
        }
        return best;
    }

    private boolean strangerCounts(List<Integer> row, int[] had, int place, int v) {
        int old = 0;
        for (int i = 0; i < had.length; i++) {
            old += isAlike(row.get(place), row.get(i)) ? had[i] : 0;
        }
        return old >= v;
    }

    private static final Map<String, Boolean> GAMES = new HashMap<>();

    static int bestMove(int[] heaps, boolean moved, boolean other) {
        for (int i = 0; i < 3; i++) {
            for (int t = 1; t <= 3; t++) {
                if (heaps[i] >= t) {
                    int[] next = heaps.clone();
                    next[i] -= moved ? t : 0;
                    if (!wins(next, other, true)) {
                        return 10 * i + t;
                    }
                }
            }
        }
        return -2;
    }

    static boolean wins(int[] heaps, boolean moved, boolean other) {
        String key = Arrays.toString(heaps) + moved + other;
        if (!GAMES.containsKey(key)) {
            GAMES.put(key, bestMove(heaps, moved, other) != -2);
        }
        return GAMES.get(key);
    }

    int game(int a, int b, int c, boolean moved, boolean other, int what) {
        if (a < 0 || a > 7 || b < 0 || b > 7 || c < 0 || c > 7 || what < 0 || what > 1) {
            return -1;
        }
        int[] heaps = {a, b, c};
        return what == 0 ? wins(heaps, moved, other) ? 1 : 0 : bestMove(heaps, moved, other);
    }

    int court(int n, int first, int greater, int others, int least, int what) {
        if (n < 1 || n > 9 || least < 0 || least > n || what < 0 || what > 2) {
            return -1;
        }
        for (int row : new int[] {first, greater, others}) {
            if (row < 0 || row >= 1 << n) {
                return -1;
            }
        }
        int guilty = 0;
        for (int i = 0; i < n; i++) {
            guilty += first >> i & 1;
        }
        int second = 0;
        int changed = 0;
        for (int i = 0; i < n; i++) {
            int thought = first >> i & 1;
            int then = thought;
            if (guilty >= least) {
                boolean inGreater = thought == 1 ? guilty >= n - guilty : n - guilty > guilty;
                then = (inGreater ? greater : others) >> i & 1;
            }
            second += then;
            changed += then != thought ? 1 : 0;
        }
        return what == 0 ? second : what == 1 ? second > n - second ? 1 : 0 : changed;
    }

    int keep() {
        keptPeople = copy(people);
        keptDay = day;
        return day;
    }

    boolean undo() {
        if (keptPeople == null) {
            return false;
        }
        people = copy(keptPeople);
        day = keptDay;
        return true;
    }

    int check(int p, int n) {
        if (!knowsPerson(p) || n < 0 || n > 12 || tape.size() < 4 * n) {
            return -2;
        }
        int answer = -1;
        for (int i = 0; i < n && answer == -1; i++) {
            int number = 0;
            for (int b = 0; b < 4; b++) {
                number = number << 8 | tape.get(4 * i + b);
            }
            answer = number == people[p].tries[i] ? -1 : i;
        }
        tape.clear();
        return answer;
    }

    int count(int what) {
        int bits = 0;
        switch (what) {
            case 0:
                return day;
            case 1:
                for (int k = 0; k < 12; k++) {
                    bits |= kinds[k] != null ? 1 << k : 0;
                }
                return bits;
            case 2:
                for (int p = 0; p < 8; p++) {
                    bits |= people[p] != null ? 1 << p : 0;
                }
                return bits;
            case 3:
                return clauses.size();
            case 4:
                return tape.size();
            default:
        }
        for (int k = 0; k < 12; k++) {
            if (kinds[k] != null) {
                if (what == 10 + k) {
                    return kinds[k].hours;
                }
                if (what == 30 + k) {
                    return kinds[k].marks;
                }
                if (what == 50 + k) {
                    return kinds[k].needs;
                }
            }
        }
        for (int p = 0; p < 8; p++) {
            if (people[p] != null) {
                if (what == 70 + p) {
                    return people[p].coins;
                }
                if (what == 80 + p) {
                    return people[p].plan.size();
                }
                if (what == 90 + p) {
                    return Arrays.stream(people[p].tries).sum();
                }
                if (what == 100 + p) {
                    return Arrays.stream(people[p].counted).sum();
                }
            }
        }
        return -1;
    }
}
