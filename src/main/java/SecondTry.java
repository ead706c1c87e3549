import java.util.Arrays;

/** A town in which first tries are void by a law; the numbered promises stand in DOC.md. */
public final class SecondTry {
    public static final int NONE = -1;

    private static final int KINDS = 12;
    private static final int PEOPLE = 8;
    /** How a law and a plan write that somebody tries alone. */
    private static final int NOBODY = 8;
    private static final int CANT = -2;
    private static final int HOURS_A_DAY = 12;
    private static final int MOST_HOURS = 12;
    private static final int MOST_MARKS = 255;
    private static final int MOST_COINS = 99999;
    private static final int MOST_TRIES = 999;
    private static final int MOST_DAYS = 60;
    private static final int LAST_DAY = 9999;
    private static final int TAPE_BYTES = 260;
    private static final int FED_BYTES = 20;

    private static final int LAW_BYTES = 240;
    private static final int MOST_CLAUSES = 16;
    private static final int MOST_OPEN = 6;
    private static final int MOST_DIGITS = 5;
    private static final int MOST_VOID = 99;
    private static final int MOST_FORGET = 999;
    private static final int MOST_PRICE = 999;

    private static final int PLAN_BYTES = 80;
    private static final int MOST_STEPS = 40;
    private static final int MOST_ROUNDS = 3;

    private static final int CANT_STAND = 1;
    private static final int TOO_MANY_DIGITS = 2;
    private static final int NO_SUCH_NUMBER = 3;
    private static final int TOO_MANY_CLAUSES = 4;
    private static final int TOO_DEEP = 5;
    private static final int TOO_MANY_STEPS = 6;

    /** The letters of a law; where a letter stands here is its place among what a judge is told. */
    private static final int[] LETTERS = {'k', 'h', 'x', 'j', 'y', 'm', 'd', 'p', 'q', 'n', 'o', 'w'};
    private static final int LETTER_K = 0;
    private static final int LETTER_H = 1;
    private static final int LETTER_X = 2;
    private static final int LETTER_J = 3;
    private static final int LETTER_Y = 4;
    private static final int LETTER_M = 5;
    private static final int LETTER_D = 6;
    private static final int LETTER_P = 7;
    private static final int LETTER_Q = 8;
    private static final int LETTER_N = 9;
    private static final int LETTER_O = 10;
    private static final int LETTER_W = 11;

    private static final int OP_NUMBER = 0;
    private static final int OP_LETTER = 1;
    private static final int OP_NOT = 2;
    private static final int OP_AND = 3;
    private static final int OP_OR = 4;
    /** Operations from here on are written as their own sign and take two numbers. */
    private static final int OP_SIGNS = 32;
    /** Six open brackets hold two numbers each at most, beside those of the outermost sum: 64 is plenty. */
    private static final int STACK = 64;

    private static final int MOST_CHOICE = 4;
    private static final int MOST_EXTRA = 3;
    private static final int MOST_GOES = 3;
    /**
     * A state of a search: two bits for each kind, its tries more; above them one for each, whether it counted,
     * but none for the last of four: its number is highest, so that no other one needs it.
     */
    private static final int COUNTED_BITS = 8;
    private static final int STATES = 2048;
    private static final int MOST_DEPTH = 12;
    private static final int NEVER = 1 << 20;
    /** A way is hours times this and its tries, so that of like hours the fewest tries are least. */
    private static final int WAY_HOUR = 16;
    private static final int MOST_WITHIN = 200;

    private static final int MOST_JOBS = 8;
    private static final int MOST_WORKERS = 3;
    private static final int JOB_SETS = 256;
    private static final int MOST_VOID_ON_END = 20;
    private static final int JOBS_HOURS = 10;

    private static final int MOST_HISTORY_TRIES = 10;
    private static final int MOST_HISTORY_VOID = 9;
    private static final int MOST_PENCE = 999;
    private static final int MOST_JURORS = 9;
    private static final int HEAPS = 3;
    private static final int MOST_HEAP = 7;

    private final Tape tape = new Tape();
    private final Kinds kinds = new Kinds();
    private final Town town = new Town();
    private final Town keptTown = new Town();
    private final Town triedTown = new Town();
    private final Judge judge = new Judge(kinds);
    private final Clerk clerk = new Clerk(kinds, judge);
    private final LawReader lawReader = new LawReader(tape);
    private final PlanReader planReader = new PlanReader(tape);
    private final Search search = new Search(kinds, judge, clerk);
    private final Parting parting = new Parting(kinds, judge, clerk, triedTown);
    private final Stranger stranger = new Stranger(kinds, judge);
    private boolean isKept;

    public SecondTry() {
        isKept = false;
    }

    public boolean kind(int k, int hours, int marks, int needs) {
        return kinds.tell(k, hours, marks, needs);
    }

    public boolean person(int p, int coins) {
        if (p < 0 || p >= PEOPLE || coins < 0 || coins > MOST_COINS) {
            return false;
        }
        town.people |= 1 << p;
        town.coins[p] = coins;
        return true;
    }

    public int feed(int a, int b, int c, int d, int e) {
        if (tape.size + FED_BYTES > TAPE_BYTES) {
            return NONE;
        }
        tape.put(a);
        tape.put(b);
        tape.put(c);
        tape.put(d);
        tape.put(e);
        return tape.size;
    }

    public int law(int n) {
        if (n < 1 || n > LAW_BYTES || n > tape.size) {
            return NONE;
        }
        int answer = lawReader.read(n);
        tape.clear();
        if (answer > 0) {
            Law before = judge.law;
            judge.law = lawReader.law;
            lawReader.law = before;
        }
        return answer;
    }

    public int plan(int p, int n) {
        if (!town.knows(p) || n < 1 || n > PLAN_BYTES || n > tape.size) {
            return NONE;
        }
        int answer = planReader.read(n);
        tape.clear();
        if (answer > 0) {
            town.takePlan(p, planReader);
        }
        return answer;
    }

    public int tries(int p, int k, int with) {
        if (!town.knows(p) || !kinds.knows(k)) {
            return NONE;
        }
        if (with == NONE) {
            return clerk.attempt(town, p, k, NOBODY);
        }
        if (with == p || !town.knows(with)) {
            return NONE;
        }
        return clerk.attempt(town, p, k, with);
    }

    public int buys(int p, int k, int seller) {
        if (!canDeal(p, k, seller)) {
            return NONE;
        }
        return clerk.buyGo(town, p, k, seller);
    }

    public int days(int n) {
        if (n < 1 || n > MOST_DAYS) {
            return NONE;
        }
        clerk.goDays(town, n);
        return clerk.daysCounted;
    }

    public int tried(int n, int what) {
        boolean ofPerson = what >= 10 && town.knows(what - 10);
        if (n < 1 || n > MOST_DAYS || !(ofPerson || what >= 0 && what <= 5)) {
            return NONE;
        }
        triedTown.copy(town);
        clerk.goDays(triedTown, n);
        return ofPerson ? triedTown.stepsLeft(what - 10) : clerk.cameOfDays(what);
    }

    public int has(int p, int k, int what) {
        if (!town.knows(p) || !kinds.knows(k) || what < 0 || what > 5) {
            return NONE;
        }
        int cell = p * KINDS + k;
        if (what == 0) {
            return town.tries[cell];
        }
        if (what == 1) {
            return town.counted[cell];
        }
        if (what == 2) {
            return town.tries[cell] > 0 ? town.last[cell] : CANT;
        }
        triedTown.copy(town);
        int outcome = clerk.attempt(triedTown, p, k, NOBODY);
        if (what == 3) {
            return clerk.foundOld;
        }
        if (what == 4) {
            return clerk.foundVoid;
        }
        return outcome == 1 ? 1 : 0;
    }

    public int alike(int k, int j) {
        if (!kinds.knows(k) || !kinds.knows(j)) {
            return NONE;
        }
        return judge.findsAlike(k, j, town.day) ? 1 : 0;
    }

    public int cost(int p, int k, int seller) {
        if (!canDeal(p, k, seller)) {
            return NONE;
        }
        return clerk.price(town, p, k, seller);
    }

    public int soonest(int p, int kinds, int k, int goes, int what) {
        if (!canChoose(p, kinds, k) || goes < 0 || goes > MOST_GOES || what < 0 || what > 1) {
            return NONE;
        }
        search.prepare(town, p, kinds, k);
        int way = search.soonestWay(goes);
        if (way >= NEVER) {
            return CANT;
        }
        return what == 0 ? way / WAY_HOUR : way % WAY_HOUR;
    }

    public int cheapest(int p, int kinds, int k, int hours, int what) {
        if (!canChoose(p, kinds, k) || hours < 0 || hours > MOST_WITHIN || what < 0 || what > 1) {
            return NONE;
        }
        search.prepare(town, p, kinds, k);
        search.findCheapest(town, p, hours);
        if (search.bestCoins >= NEVER) {
            return CANT;
        }
        return what == 0 ? search.bestCoins : search.bestHours;
    }

    public int loophole(int to, int not, int what) {
        if (!kinds.knowsAll(to) || !kinds.knowsAll(not) || (to & not) != 0 || what < 0 || what > 1) {
            return NONE;
        }
        int best = CANT;
        int found = 0;
        for (int marks = 0; marks <= MOST_MARKS; marks++) {
            if (judge.isLoophole(marks, to, not, town.day)) {
                found++;
                if (best == CANT || Integer.bitCount(marks) < Integer.bitCount(best)) {
                    best = marks;
                }
            }
        }
        return what == 0 ? best : found;
    }

    public int jobs(int n, int people, int what) {
        if (n < 1 || n > MOST_JOBS || n > tape.size) {
            return NONE;
        }
        boolean areKinds = parting.read(tape, n);
        tape.clear();
        if (!areKinds) {
            return -2;
        }
        boolean isPlace = what == JOBS_HOURS || what >= 0 && what < n;
        if (!isPlace || !town.knowsAll(people) || !parting.takeWorkers(people)) {
            return -4;
        }
        parting.solve(town);
        if (parting.bestHours >= NEVER) {
            return -3;
        }
        return what == JOBS_HOURS ? parting.bestHours : parting.workerOf(what);
    }

    public int rivals(int lost, int won, int what) {
        if (lost < 0 || lost > MOST_PENCE || won < 0 || won > MOST_PENCE || what < 0 || what > 1) {
            return NONE;
        }
        int found = 0;
        int lowest = CANT;
        for (int row = 3; row >= 0; row--) {
            if (isSettled(row, lost, won)) {
                found++;
                lowest = row;
            }
        }
        return what == 0 ? found : lowest;
    }

    public int histories(int m, int n, int v, int what) {
        if (m < 1 || m > MOST_CHOICE || n < 0 || n > MOST_HISTORY_TRIES || v < 0 || v > MOST_HISTORY_VOID) {
            return NONE;
        }
        if (what < 0 || what > 2 || m + 2 * n > tape.size) {
            return NONE;
        }
        boolean isRight = stranger.read(tape, m, n);
        tape.clear();
        if (!isRight) {
            return -3;
        }
        stranger.goThrough(v, town.day);
        if (what == 0) {
            return stranger.fitting;
        }
        return what == 1 ? stranger.first : stranger.tellingPlace();
    }

    public int game(int a, int b, int c, boolean moved, boolean other, int what) {
        if (!isHeap(a) || !isHeap(b) || !isHeap(c) || what < 0 || what > 1) {
            return NONE;
        }
        int move = bestMove(a | b << 3 | c << 6, moved, other);
        if (what == 1) {
            return move;
        }
        return move == CANT ? 0 : 1;
    }

    public int court(int n, int first, int greater, int others, int least, int what) {
        if (n < 1 || n > MOST_JURORS || least < 0 || least > n || what < 0 || what > 2) {
            return NONE;
        }
        int all = (1 << n) - 1;
        if ((first & ~all) != 0 || (greater & ~all) != 0 || (others & ~all) != 0) {
            return NONE;
        }
        int guilty = Integer.bitCount(first);
        int second = first;
        if (guilty >= least) {
            int part = 2 * guilty >= n ? first : all & ~first;
            second = greater & part | others & ~part;
        }
        if (what == 0) {
            return Integer.bitCount(second);
        }
        if (what == 1) {
            return 2 * Integer.bitCount(second) > n ? 1 : 0;
        }
        return Integer.bitCount(first ^ second);
    }

    public int keep() {
        keptTown.copy(town);
        isKept = true;
        return town.day;
    }

    public boolean undo() {
        if (!isKept) {
            return false;
        }
        town.copy(keptTown);
        return true;
    }

    public int check(int p, int n) {
        if (!town.knows(p) || n < 0 || n > KINDS || 4 * n > tape.size) {
            return -2;
        }
        int wrong = NONE;
        for (int k = n - 1; k >= 0; k--) {
            if (tape.word(4 * k) != town.tries[p * KINDS + k]) {
                wrong = k;
            }
        }
        tape.clear();
        return wrong;
    }

    public int count(int what) {
        switch (what) {
            case 0:
                return town.day;
            case 1:
                return kinds.told;
            case 2:
                return town.people;
            case 3:
                return judge.law.clauses;
            case 4:
                return tape.size;
            default:
                return what < 70 ? countOfKind(what) : countOfPerson(what);
        }
    }

    private int countOfKind(int what) {
        if (kinds.knows(what - 10)) {
            return kinds.hours[what - 10];
        }
        if (kinds.knows(what - 30)) {
            return kinds.marks[what - 30];
        }
        return kinds.knows(what - 50) ? kinds.needs[what - 50] : NONE;
    }

    private int countOfPerson(int what) {
        if (town.knows(what - 70)) {
            return town.coins[what - 70];
        }
        if (town.knows(what - 80)) {
            return town.stepsLeft(what - 80);
        }
        if (town.knows(what - 90)) {
            return town.sumOf(town.tries, what - 90);
        }
        return town.knows(what - 100) ? town.sumOf(town.counted, what - 100) : NONE;
    }

    private boolean canDeal(int p, int k, int seller) {
        return town.knows(p) && kinds.knows(k) && town.knows(seller) && p != seller;
    }

    private boolean canChoose(int p, int choice, int k) {
        int size = Integer.bitCount(choice);
        return town.knows(p) && kinds.knowsAll(choice) && size >= 1 && size <= MOST_CHOICE
            && kinds.knows(k) && (choice >> k & 1) == 1;
    }

    private static boolean isSettled(int row, int lost, int won) {
        int first = row & 1;
        int second = row >> 1;
        return pence(first, second, lost, won) >= pence(1 - first, second, lost, won)
            && pence(second, first, lost, won) >= pence(1 - second, first, lost, won);
    }

    /** What a rival has who begins (1) or waits (0), while the other one begins or waits. */
    private static int pence(int begins, int otherBegins, int lost, int won) {
        if (begins == 1) {
            return otherBegins == 1 ? -(lost / 2) : -lost;
        }
        return otherBegins == 1 ? won : -1;
    }

    private static boolean isHeap(int size) {
        return size >= 0 && size <= MOST_HEAP;
    }

    /** Heaps are three bits each. */
    private static int bestMove(int heaps, boolean moved, boolean other) {
        for (int heap = 0; heap < HEAPS; heap++) {
            int lying = heaps >> 3 * heap & 7;
            for (int taken = 1; taken <= 3 && taken <= lying; taken++) {
                int left = moved ? heaps - (taken << 3 * heap) : heaps;
                if (!nextOneWins(left, other)) {
                    return 10 * heap + taken;
                }
            }
        }
        return CANT;
    }

    /** Whether the one wins who is to move behind another's move, so that the other one's first move is made. */
    private static boolean nextOneWins(int heaps, boolean moved) {
        // where 1 to 3 may be taken, a heap is worth its size modulo 4, and heaps add without carry
        boolean winsByTaking = ((heaps ^ heaps >> 3 ^ heaps >> 6) & 3) != 0;
        return moved ? winsByTaking : heaps != 0 && !winsByTaking;
    }

    /**
     * The bytes that were fed and not yet used. The first of them may be read as a text, once, from the left;
     * its first fault ends the reading.
     */
    private static final class Tape {
        final int[] bytes = new int[TAPE_BYTES];
        int size;
        int textSize;
        int place;
        int fault;

        void put(int word) {
            for (int shift = 24; shift >= 0 && size < TAPE_BYTES; shift -= 8) {
                bytes[size] = word >> shift & 255;
                size++;
            }
        }

        int at(int index) {
            return index >= 0 && index < size ? bytes[index] : NONE;
        }

        int word(int index) {
            return at(index) << 24 | at(index + 1) << 16 | at(index + 2) << 8 | at(index + 3);
        }

        void clear() {
            size = 0;
        }

        void openText(int n) {
            textSize = Math.min(n, size);
            place = 0;
            fault = 0;
        }

        int sign() {
            return place >= 0 && place < textSize ? bytes[place] : NONE;
        }

        int digit() {
            int sign = sign();
            return sign >= '0' && sign <= '9' ? sign - '0' : NONE;
        }

        boolean takes(int sign) {
            if (sign() != sign) {
                return false;
            }
            place++;
            return true;
        }

        boolean mustTake(int sign) {
            return takes(sign) || fails(CANT_STAND, place);
        }

        boolean mustEnd() {
            return place >= textSize || fails(CANT_STAND, place);
        }

        boolean fails(int number, int where) {
            fault = -1000 * number - where;
            return false;
        }
    }

    /** A law as codes for a judge: of each clause the sum's codes, then those of its condition. */
    private static final class Law {
        final int[] ops = new int[LAW_BYTES];
        final int[] args = new int[LAW_BYTES];
        final int[] letters = new int[MOST_CLAUSES];
        final int[] sumAt = new int[MOST_CLAUSES];
        final int[] conditionAt = new int[MOST_CLAUSES];
        final int[] endAt = new int[MOST_CLAUSES];
        int codes;
        int clauses;

        void clear() {
            codes = 0;
            clauses = 0;
        }

        /** Each code stands for a byte of the text at least, so there is room for all of them. */
        int add(int op, int arg) {
            if (codes < LAW_BYTES) {
                ops[codes] = op;
                args[codes] = arg;
                codes++;
            }
            return codes - 1;
        }

        /** Where what is left of it decides, a judge goes on behind the last code there is now. */
        void skipToHere(int code) {
            if (code >= 0 && code < codes) {
                args[code] = codes - 1;
            }
        }

        void addClause(int letter, int sum, int condition) {
            if (clauses < MOST_CLAUSES) {
                letters[clauses] = letter;
                sumAt[clauses] = sum;
                conditionAt[clauses] = condition;
                endAt[clauses] = codes;
                clauses++;
            }
        }
    }

    /** Reads a law; open is how many of ( [ ! are open around. */
    private static final class LawReader {
        final Tape text;
        Law law = new Law();

        LawReader(Tape tape) {
            text = tape;
        }

        int read(int n) {
            law.clear();
            text.openText(n);
            for (int i = 0; i <= MOST_CLAUSES && readClause(); i++) {
                if (!text.takes(';')) {
                    return text.mustEnd() ? law.clauses : text.fault;
                }
            }
            return text.fault;
        }

        private boolean readClause() {
            int letter = text.sign();
            if (letter != 'a' && letter != 'v' && letter != 'f' && letter != 'c') {
                return text.fails(CANT_STAND, text.place);
            }
            if (law.clauses >= MOST_CLAUSES) {
                return text.fails(TOO_MANY_CLAUSES, text.place);
            }
            text.place++;
            int sum = law.codes;
            if (letter != 'a' && !readSum(0)) {
                return false;
            }
            int condition = law.codes;
            if (!text.mustTake('(') || !readCondition(1) || !text.mustTake(')')) {
                return false;
            }
            law.addClause(letter, sum, condition);
            return true;
        }

        private boolean readCondition(int open) {
            if (!readPart(open)) {
                return false;
            }
            for (int i = 0; i < LAW_BYTES && text.takes('|'); i++) {
                int skip = law.add(OP_OR, 0);
                if (!readPart(open)) {
                    return false;
                }
                law.skipToHere(skip);
            }
            return true;
        }

        private boolean readPart(int open) {
            if (!readPiece(open)) {
                return false;
            }
            for (int i = 0; i < LAW_BYTES && text.takes('&'); i++) {
                int skip = law.add(OP_AND, 0);
                if (!readPiece(open)) {
                    return false;
                }
                law.skipToHere(skip);
            }
            return true;
        }

        private boolean readPiece(int open) {
            if (text.sign() == '(') {
                return opens(open) && readCondition(open + 1) && text.mustTake(')');
            }
            if (text.sign() == '!') {
                boolean isRight = opens(open) && readPiece(open + 1);
                law.add(OP_NOT, 0);
                return isRight;
            }
            if (!readSum(open)) {
                return false;
            }
            int sign = text.sign();
            if (sign != '<' && sign != '>' && sign != '=') {
                return text.fails(CANT_STAND, text.place);
            }
            text.place++;
            boolean isRight = readSum(open);
            law.add(sign, 0);
            return isRight;
        }

        private boolean readSum(int open) {
            boolean isRight = readProduct(open);
            for (int i = 0; i < LAW_BYTES && isRight; i++) {
                int sign = text.sign();
                if (sign != '+' && sign != '-') {
                    return true;
                }
                text.place++;
                isRight = readProduct(open);
                law.add(sign, 0);
            }
            return isRight;
        }

        private boolean readProduct(int open) {
            boolean isRight = readFactor(open);
            for (int i = 0; i < LAW_BYTES && isRight; i++) {
                int sign = text.sign();
                if (sign != '*' && sign != '/' && sign != '%') {
                    return true;
                }
                text.place++;
                isRight = readFactor(open);
                law.add(sign, 0);
            }
            return isRight;
        }

        private boolean readFactor(int open) {
            int sign = text.sign();
            if (sign == '[') {
                return opens(open) && readSum(open + 1) && text.mustTake(']');
            }
            if (text.digit() != NONE) {
                return readNumber();
            }
            for (int i = 0; i < LETTERS.length; i++) {
                if (LETTERS[i] == sign) {
                    text.place++;
                    law.add(OP_LETTER, i);
                    return true;
                }
            }
            return text.fails(CANT_STAND, text.place);
        }

        private boolean readNumber() {
            int number = 0;
            for (int i = 0; i < MOST_DIGITS && text.digit() != NONE; i++) {
                number = 10 * number + text.digit();
                text.place++;
            }
            if (text.digit() != NONE) {
                return text.fails(TOO_MANY_DIGITS, text.place);
            }
            law.add(OP_NUMBER, number);
            return true;
        }

        private boolean opens(int open) {
            if (open >= MOST_OPEN) {
                return text.fails(TOO_DEEP, text.place);
            }
            text.place++;
            return true;
        }
    }

    /** Reads a plan into its steps, rounds written out. */
    private static final class PlanReader {
        final Tape text;
        final int[] stepKinds = new int[MOST_STEPS];
        final int[] stepWith = new int[MOST_STEPS];
        int steps;

        PlanReader(Tape tape) {
            text = tape;
        }

        int read(int n) {
            text.openText(n);
            steps = 0;
            return readSteps(0) && text.mustEnd() ? steps : text.fault;
        }

        private boolean readSteps(int open) {
            boolean isRight = readStep(open);
            for (int i = 0; i < PLAN_BYTES && isRight; i++) {
                if (!text.takes(',')) {
                    return true;
                }
                isRight = readStep(open);
            }
            return isRight;
        }

        private boolean readStep(int open) {
            if (text.sign() != '(') {
                return readTry();
            }
            int start = text.place;
            int before = steps;
            if (open >= MOST_ROUNDS) {
                return text.fails(TOO_DEEP, start);
            }
            text.place++;
            if (!readSteps(open + 1) || !text.mustTake(')')) {
                return false;
            }
            int times = text.digit();
            if (times < 2) {
                return text.fails(CANT_STAND, text.place);
            }
            text.place++;
            return repeatSteps(before, times) || text.fails(TOO_MANY_STEPS, start);
        }

        private boolean readTry() {
            int start = text.place;
            int kind = text.digit();
            if (kind == NONE) {
                return text.fails(CANT_STAND, start);
            }
            text.place++;
            if (text.digit() != NONE) {
                kind = 10 * kind + text.digit();
                text.place++;
            }
            if (kind >= KINDS) {
                return text.fails(NO_SUCH_NUMBER, start);
            }
            int with = NOBODY;
            if (text.takes('&')) {
                with = text.digit();
                if (with == NONE || with >= PEOPLE) {
                    return text.fails(with == NONE ? CANT_STAND : NO_SUCH_NUMBER, text.place);
                }
                text.place++;
            }
            return addStep(kind, with) || text.fails(TOO_MANY_STEPS, start);
        }

        private boolean repeatSteps(int from, int times) {
            int until = steps;
            for (int i = 1; i < times; i++) {
                for (int at = from; at < until; at++) {
                    if (!addStep(stepKinds[at], stepWith[at])) {
                        return false;
                    }
                }
            }
            return true;
        }

        private boolean addStep(int kind, int with) {
            if (steps >= MOST_STEPS) {
                return false;
            }
            stepKinds[steps] = kind;
            stepWith[steps] = with;
            steps++;
            return true;
        }
    }

    /** The kinds of deeds, each told once. */
    private static final class Kinds {
        final int[] hours = new int[KINDS];
        final int[] marks = new int[KINDS];
        final int[] needs = new int[KINDS];
        int told;

        boolean knows(int k) {
            return k >= 0 && k < KINDS && (told >> k & 1) == 1;
        }

        boolean knowsAll(int bits) {
            return (bits & ~told) == 0;
        }

        boolean tell(int k, int itsHours, int itsMarks, int itsNeeds) {
            if (k < 0 || k >= KINDS || knows(k) || itsHours < 1 || itsHours > MOST_HOURS) {
                return false;
            }
            if (itsMarks < 0 || itsMarks > MOST_MARKS || itsNeeds >> k != 0 || !knowsAll(itsNeeds)) {
                return false;
            }
            hours[k] = itsHours;
            marks[k] = itsMarks;
            needs[k] = itsNeeds;
            told |= 1 << k;
            return true;
        }
    }

    /** All that is kept and undone: people, their tries and plans, the day. */
    private static final class Town {
        final int[] coins = new int[PEOPLE];
        final int[] tries = new int[PEOPLE * KINDS];
        final int[] last = new int[PEOPLE * KINDS];
        final int[] counted = new int[PEOPLE * KINDS];
        final int[] stepKinds = new int[PEOPLE * MOST_STEPS];
        final int[] stepWith = new int[PEOPLE * MOST_STEPS];
        final int[] steps = new int[PEOPLE];
        final int[] done = new int[PEOPLE];
        int people;
        int day;

        void copy(Town from) {
            System.arraycopy(from.coins, 0, coins, 0, PEOPLE);
            System.arraycopy(from.tries, 0, tries, 0, PEOPLE * KINDS);
            System.arraycopy(from.last, 0, last, 0, PEOPLE * KINDS);
            System.arraycopy(from.counted, 0, counted, 0, PEOPLE * KINDS);
            System.arraycopy(from.stepKinds, 0, stepKinds, 0, PEOPLE * MOST_STEPS);
            System.arraycopy(from.stepWith, 0, stepWith, 0, PEOPLE * MOST_STEPS);
            System.arraycopy(from.steps, 0, steps, 0, PEOPLE);
            System.arraycopy(from.done, 0, done, 0, PEOPLE);
            people = from.people;
            day = from.day;
        }

        boolean knows(int p) {
            return p >= 0 && p < PEOPLE && (people >> p & 1) == 1;
        }

        boolean knowsAll(int bits) {
            return (bits & ~people) == 0;
        }

        void takePlan(int p, PlanReader plan) {
            System.arraycopy(plan.stepKinds, 0, stepKinds, p * MOST_STEPS, MOST_STEPS);
            System.arraycopy(plan.stepWith, 0, stepWith, p * MOST_STEPS, MOST_STEPS);
            steps[p] = plan.steps;
            done[p] = 0;
        }

        int stepsLeft(int p) {
            return steps[p] - done[p];
        }

        int sumOf(int[] row, int p) {
            int sum = 0;
            for (int k = 0; k < KINDS; k++) {
                sum += row[p * KINDS + k];
            }
            return sum;
        }

        int triesAmong(int p, int bits) {
            int sum = 0;
            for (int k = 0; k < KINDS; k++) {
                if ((bits >> k & 1) == 1) {
                    sum += tries[p * KINDS + k];
                }
            }
            return sum;
        }

        int triesByAll(int k) {
            int sum = 0;
            for (int p = 0; p < PEOPLE; p++) {
                sum += tries[p * KINDS + k];
            }
            return sum;
        }

        void addTry(int p, int k) {
            int cell = p * KINDS + k;
            tries[cell] = Math.min(MOST_TRIES, tries[cell] + 1);
            last[cell] = day;
        }

        void addCounted(int p, int k) {
            int cell = p * KINDS + k;
            counted[cell] = Math.min(MOST_TRIES, counted[cell] + 1);
        }

        /** Whether each kind of these has counted for the person. */
        boolean hasCounted(int p, int bits) {
            for (int k = 0; k < KINDS; k++) {
                if ((bits >> k & 1) == 1 && counted[p * KINDS + k] == 0) {
                    return false;
                }
            }
            return true;
        }
    }

    /** What the law says: it is told the letters, then asked. */
    private static final class Judge {
        final Kinds kinds;
        final int[] told = new int[LETTERS.length];
        final int[] stack = new int[STACK];
        Law law = new Law();
        boolean isRefused;

        Judge(Kinds kinds) {
            this.kinds = kinds;
        }

        boolean findsAlike(int k, int j, int day) {
            if (k == j) {
                return true;
            }
            tellDeed(k, kinds.hours[k], kinds.marks[k], day);
            return isAlike(j);
        }

        /** Told kinds that are alike a deed of this one, as bits. */
        int alikes(int k, int day) {
            int bits = 0;
            tellDeed(k, kinds.hours[k], kinds.marks[k], day);
            for (int j = 0; j < KINDS; j++) {
                if (j == k || kinds.knows(j) && isAlike(j)) {
                    bits |= 1 << j;
                }
            }
            return bits;
        }

        boolean isLoophole(int marks, int to, int not, int day) {
            tellDeed(KINDS, 1, marks, day);
            for (int j = 0; j < KINDS; j++) {
                int bit = 1 << j;
                if ((to & bit) != 0 && !isAlike(j) || (not & bit) != 0 && isAlike(j)) {
                    return false;
                }
            }
            return true;
        }

        /** Where a letter is not told, it is 0. */
        void tellDeed(int k, int hours, int marks, int day) {
            Arrays.fill(told, 0);
            told[LETTER_K] = k;
            told[LETTER_H] = hours;
            told[LETTER_X] = marks;
            told[LETTER_D] = day;
        }

        void tellTry(int p, int with, int tries, int byAll, int counted) {
            told[LETTER_P] = p;
            told[LETTER_Q] = with;
            told[LETTER_N] = tries;
            told[LETTER_O] = byAll;
            told[LETTER_W] = counted;
        }

        int voidTries() {
            return amount('v', MOST_VOID, 1);
        }

        /** What the first clause of this letter says whose condition holds; missing: what the law without one says. */
        int amount(int letter, int most, int missing) {
            int answer = missing;
            for (int i = 0; i < law.clauses; i++) {
                if (law.letters[i] == letter) {
                    answer = 0;
                    if (run(law.conditionAt[i], law.endAt[i]) != 0) {
                        return Math.max(0, Math.min(most, run(law.sumAt[i], law.conditionAt[i])));
                    }
                }
            }
            return answer;
        }

        private boolean isAlike(int j) {
            told[LETTER_J] = j;
            told[LETTER_Y] = kinds.marks[j];
            told[LETTER_M] = Integer.bitCount(told[LETTER_X] & kinds.marks[j]);
            for (int i = 0; i < law.clauses; i++) {
                if (law.letters[i] == 'a' && run(law.conditionAt[i], law.endAt[i]) != 0) {
                    return true;
                }
            }
            return false;
        }

        /** Goes through codes: 0 if they are refused, so that a condition does not hold then and a sum is 0. */
        private int run(int from, int end) {
            int size = 0;
            isRefused = false;
            for (int at = from; at < end && !isRefused; at++) {
                int op = law.ops[at];
                int arg = law.args[at];
                if (op == OP_NUMBER || op == OP_LETTER) {
                    if (size < STACK) {
                        stack[size] = op == OP_NUMBER ? arg : told[arg];
                        size++;
                    }
                } else if (op >= OP_SIGNS && size >= 2) {
                    size--;
                    stack[size - 1] = reckon(op, stack[size - 1], stack[size]);
                } else if (op == OP_NOT && size >= 1) {
                    stack[size - 1] = 1 - stack[size - 1];
                } else if (size >= 1) {
                    boolean isDecided = stack[size - 1] == (op == OP_OR ? 1 : 0);
                    at = isDecided ? Math.max(at, arg) : at;
                    size = isDecided ? size : size - 1;
                }
            }
            return isRefused || size < 1 ? 0 : stack[0];
        }

        private int reckon(int op, int a, int b) {
            switch (op) {
                case '+':
                    return a + b;
                case '-':
                    return a - b;
                case '*':
                    return a * b;
                case '<':
                    return a < b ? 1 : 0;
                case '>':
                    return a > b ? 1 : 0;
                case '=':
                    return a == b ? 1 : 0;
                default:
                    if (b == 0) {
                        isRefused = true;
                        return 0;
                    }
                    return op == '/' ? a / b : a % b;
            }
        }
    }

    /** Does what people do in a town: tries, first goes, days. */
    private static final class Clerk {
        final Kinds kinds;
        final Judge judge;
        /** What the last try found, and what came of the last days. */
        int foundOld;
        int foundVoid;
        int daysTries;
        int daysCounted;
        int daysHours;
        int stallDay;
        int stallPerson;
        int stallKind;

        Clerk(Kinds kinds, Judge judge) {
            this.kinds = kinds;
            this.judge = judge;
        }

        /** A try: 1 it counts, 0 it is void for want of old ones, -2 for what it needs alone. */
        int attempt(Town town, int p, int k, int with) {
            int alikes = judge.alikes(k, town.day);
            forget(town, p, alikes);
            foundOld = town.triesAmong(p, alikes);
            tellAll(town, p, k, with);
            foundVoid = judge.voidTries();
            town.addTry(p, k);
            if (foundOld < foundVoid) {
                return 0;
            }
            if (!town.hasCounted(p, kinds.needs[k])) {
                return CANT;
            }
            town.addCounted(p, k);
            return 1;
        }

        int price(Town town, int p, int k, int seller) {
            tellAll(town, p, k, seller);
            return judge.amount('c', MOST_PRICE, 0);
        }

        int buyGo(Town town, int p, int k, int seller) {
            if (town.tries[seller * KINDS + k] == 0) {
                return -3;
            }
            int price = price(town, p, k, seller);
            if (town.coins[p] < price) {
                return -2;
            }
            town.coins[p] -= price;
            town.coins[seller] = Math.min(MOST_COINS, town.coins[seller] + price);
            town.tries[seller * KINDS + k]--;
            town.addTry(p, k);
            return price;
        }

        void goDays(Town town, int n) {
            daysTries = 0;
            daysCounted = 0;
            daysHours = 0;
            stallDay = CANT;
            stallPerson = CANT;
            stallKind = CANT;
            for (int i = 0; i < n && town.day < LAST_DAY; i++) {
                for (int p = 0; p < PEOPLE; p++) {
                    if (town.knows(p)) {
                        doSteps(town, p);
                    }
                }
                town.day++;
            }
        }

        int cameOfDays(int what) {
            switch (what) {
                case 0:
                    return daysTries;
                case 1:
                    return daysCounted;
                case 2:
                    return stallDay;
                case 3:
                    return stallPerson;
                case 4:
                    return stallKind;
                default:
                    return daysHours;
            }
        }

        private void doSteps(Town town, int p) {
            int left = HOURS_A_DAY;
            for (int i = town.done[p]; i < town.steps[p]; i++) {
                int k = town.stepKinds[p * MOST_STEPS + i];
                int with = town.stepWith[p * MOST_STEPS + i];
                if (kinds.knows(k) && (with == NOBODY || with != p && town.knows(with))) {
                    if (kinds.hours[k] > left) {
                        return;
                    }
                    left -= kinds.hours[k];
                    daysHours += kinds.hours[k];
                    daysTries++;
                    noteOutcome(town.day, p, k, attempt(town, p, k, with));
                }
                town.done[p] = i + 1;
            }
        }

        private void noteOutcome(int day, int p, int k, int outcome) {
            if (outcome == 1) {
                daysCounted++;
            }
            if (outcome == CANT && stallDay == CANT) {
                stallDay = day;
                stallPerson = p;
                stallKind = k;
            }
        }

        private void forget(Town town, int p, int alikes) {
            for (int k = 0; k < KINDS; k++) {
                int cell = p * KINDS + k;
                if ((alikes >> k & 1) == 1 && town.tries[cell] > 0) {
                    tellAll(town, p, k, NOBODY);
                    int after = judge.amount('f', MOST_FORGET, 0);
                    if (after > 0 && town.day - town.last[cell] >= after) {
                        town.tries[cell] = 0;
                    }
                }
            }
        }

        /** Tells the judge all letters of a try, or of a first go, as the town is now. */
        void tellAll(Town town, int p, int k, int with) {
            int cell = p * KINDS + k;
            judge.tellDeed(k, kinds.hours[k], kinds.marks[k], town.day);
            judge.tellTry(p, with, town.tries[cell], town.triesByAll(k), town.counted[cell]);
        }
    }

    /**
     * Looks for the soonest and the cheapest way to a kind that counts, through states. Each try and each first
     * go is one more of its kind, so that no state comes again. How often a kind counted on the way does not
     * matter, only whether it did: others ask no more of what they need, and the aim ends the way.
     */
    private static final class Search {
        final Kinds kinds;
        final Judge judge;
        final Clerk clerk;
        final int[] choice = new int[MOST_CHOICE];
        final int[] hasOld = new int[MOST_CHOICE];
        final int[] alikes = new int[MOST_CHOICE];
        final int[] lacks = new int[MOST_CHOICE];
        final int[] prices = new int[MOST_CHOICE];
        final int[] voids = new int[MOST_CHOICE * (MOST_EXTRA + 1)];
        final int[] ways = new int[STATES * (MOST_GOES + 1)];
        int size;
        int aim;
        int bestCoins;
        int bestHours;

        Search(Kinds kinds, Judge judge, Clerk clerk) {
            this.kinds = kinds;
            this.judge = judge;
            this.clerk = clerk;
        }

        void prepare(Town town, int p, int bits, int k) {
            size = 0;
            for (int j = 0; j < KINDS && size < MOST_CHOICE; j++) {
                if ((bits >> j & 1) == 1) {
                    aim = j == k ? size : aim;
                    choice[size] = j;
                    size++;
                }
            }
            for (int i = 0; i < size; i++) {
                int alikeKinds = judge.alikes(choice[i], town.day);
                hasOld[i] = town.triesAmong(p, alikeKinds);
                alikes[i] = toPlaces(alikeKinds);
                lacks[i] = lackedPlaces(town, p, kinds.needs[choice[i]]);
                askVoids(town, p, i);
            }
            Arrays.fill(ways, NONE);
        }

        int soonestWay(int goes) {
            return bestWay(0, goes, 0);
        }

        void findCheapest(Town town, int p, int hours) {
            for (int i = 0; i < size; i++) {
                prices[i] = leastPrice(town, p, choice[i]);
            }
            bestCoins = NEVER;
            bestHours = NEVER;
            tryGoes(0, 0, 0, MOST_GOES, hours);
        }

        /** What is void of a kind that did not count on the way hangs on its own tries more alone. */
        private void askVoids(Town town, int p, int place) {
            int k = choice[place];
            int cell = p * KINDS + k;
            int byAll = town.triesByAll(k);
            judge.tellDeed(k, kinds.hours[k], kinds.marks[k], town.day);
            for (int extra = 0; extra <= MOST_EXTRA; extra++) {
                judge.tellTry(p, NOBODY, town.tries[cell] + extra, byAll + extra, town.counted[cell]);
                voids[place * (MOST_EXTRA + 1) + extra] = judge.voidTries();
            }
        }

        private int toPlaces(int bits) {
            int places = 0;
            for (int i = 0; i < size; i++) {
                places |= (bits >> choice[i] & 1) << i;
            }
            return places;
        }

        /** Places of the choice that must count first; NONE: another kind would have to, so it never can. */
        private int lackedPlaces(Town town, int p, int needs) {
            int lacked = 0;
            for (int k = 0; k < KINDS; k++) {
                if (!town.hasCounted(p, needs & 1 << k)) {
                    int place = toPlaces(1 << k);
                    if (place == 0) {
                        return NONE;
                    }
                    lacked |= place;
                }
            }
            return lacked;
        }

        private int leastPrice(Town town, int p, int k) {
            int least = NEVER;
            for (int seller = 0; seller < PEOPLE; seller++) {
                if (seller != p && town.knows(seller) && town.tries[seller * KINDS + k] > 0) {
                    least = Math.min(least, clerk.price(town, p, k, seller));
                }
            }
            return least;
        }

        /** First goes of the kinds from a place on are bought in all ways, ahead of all tries. */
        private void tryGoes(int place, int state, int coins, int goes, int hours) {
            if (place >= size) {
                int needed = bestWay(state, 0, 0) / WAY_HOUR;
                if (needed <= hours && (coins < bestCoins || coins == bestCoins && needed < bestHours)) {
                    bestCoins = coins;
                    bestHours = needed;
                }
                return;
            }
            for (int bought = 0; bought <= goes && (bought == 0 || prices[place] < NEVER); bought++) {
                int more = bought << 2 * place;
                tryGoes(place + 1, state + more, coins + bought * prices[place], goes - bought, hours);
            }
        }

        private int bestWay(int state, int goes, int depth) {
            int slot = goes * STATES + state;
            if (slot < 0 || slot >= ways.length || depth > MOST_DEPTH) {
                return NEVER;
            }
            if (ways[slot] != NONE) {
                return ways[slot];
            }
            int best = NEVER;
            for (int i = 0; i < size; i++) {
                if (extraAt(state, i) < MOST_EXTRA) {
                    int next = state + (1 << 2 * i);
                    boolean counts = wouldCount(state, i);
                    int then = counts && i < MOST_CHOICE - 1 ? next | 1 << COUNTED_BITS + i : next;
                    int rest = counts && i == aim ? 0 : bestWay(then, goes, depth + 1);
                    best = Math.min(best, WAY_HOUR * kinds.hours[choice[i]] + 1 + rest);
                    if (goes > 0) {
                        best = Math.min(best, bestWay(next, goes - 1, depth + 1));
                    }
                }
            }
            ways[slot] = best;
            return best;
        }

        private static int extraAt(int state, int place) {
            return state >> 2 * place & 3;
        }

        private boolean wouldCount(int state, int place) {
            if (lacks[place] == NONE || (lacks[place] & ~(state >> COUNTED_BITS)) != 0) {
                return false;
            }
            int old = hasOld[place];
            for (int i = 0; i < size; i++) {
                old += (alikes[place] >> i & 1) == 1 ? extraAt(state, i) : 0;
            }
            return old >= voids[place * (MOST_EXTRA + 1) + extraAt(state, place)];
        }
    }

    /** Parts jobs among workers: first what each one needs for each set of jobs, then the best row. */
    private static final class Parting {
        final Kinds kinds;
        final Judge judge;
        final Clerk clerk;
        final int[] row = new int[MOST_JOBS];
        final int[] workers = new int[MOST_WORKERS];
        final int[] setHours = new int[MOST_WORKERS * JOB_SETS];
        final int[] alikes = new int[KINDS];
        final int[] sets = new int[MOST_WORKERS];
        /** Where one worker goes through its jobs, so that the town itself stays as it is. */
        final Town trial;
        int jobCount;
        int workerCount;
        int bestHours;
        int bestRow;

        Parting(Kinds kinds, Judge judge, Clerk clerk, Town trial) {
            this.kinds = kinds;
            this.judge = judge;
            this.clerk = clerk;
            this.trial = trial;
        }

        boolean read(Tape tape, int n) {
            jobCount = Math.min(n, MOST_JOBS);
            boolean areKinds = true;
            for (int i = 0; i < jobCount; i++) {
                row[i] = tape.at(i);
                areKinds = areKinds && kinds.knows(row[i]);
            }
            return areKinds;
        }

        boolean takeWorkers(int people) {
            workerCount = 0;
            if (people == 0 || Integer.bitCount(people) > MOST_WORKERS) {
                return false;
            }
            for (int p = 0; p < PEOPLE && workerCount < MOST_WORKERS; p++) {
                if ((people >> p & 1) == 1) {
                    workers[workerCount] = p;
                    workerCount++;
                }
            }
            return workerCount > 0;
        }

        void solve(Town town) {
            trial.copy(town);
            for (int i = 0; i < jobCount; i++) {
                alikes[row[i]] = judge.alikes(row[i], town.day);
            }
            for (int worker = 0; worker < workerCount; worker++) {
                goThroughSets(worker, 0, 0, 0);
            }
            findBestRow();
        }

        int workerOf(int job) {
            int rest = bestRow;
            for (int i = jobCount - 1; i > job && workerCount > 0; i--) {
                rest /= workerCount;
            }
            return workerCount > 0 ? workers[rest % workerCount] : NONE;
        }

        /** Fills in the hours of all sets that go on from these jobs; what was done is taken back behind it. */
        private void goThroughSets(int worker, int job, int set, int hours) {
            if (job >= jobCount) {
                setHours[worker * JOB_SETS + set] = hours;
                return;
            }
            goThroughSets(worker, job + 1, set, hours);
            int cell = workers[worker] * KINDS + row[job];
            int triesBefore = trial.tries[cell];
            int countedBefore = trial.counted[cell];
            int more = hours < NEVER ? hoursFor(workers[worker], row[job]) : NEVER;
            goThroughSets(worker, job + 1, set | 1 << job, Math.min(NEVER, hours + more));
            trial.tries[cell] = triesBefore;
            trial.counted[cell] = countedBefore;
        }

        private int hoursFor(int p, int k) {
            if (!trial.hasCounted(p, kinds.needs[k])) {
                return NEVER;
            }
            for (int i = 1; i <= MOST_VOID_ON_END; i++) {
                int old = trial.triesAmong(p, alikes[k]);
                clerk.tellAll(trial, p, k, NOBODY);
                boolean counts = old >= judge.voidTries();
                trial.addTry(p, k);
                if (counts) {
                    trial.addCounted(p, k);
                    return i * kinds.hours[k];
                }
            }
            return NEVER;
        }

        private void findBestRow() {
            int rows = 1;
            for (int i = 0; i < jobCount; i++) {
                rows *= workerCount;
            }
            bestHours = NEVER;
            bestRow = 0;
            for (int i = 0; i < rows; i++) {
                int longest = longestOf(i);
                if (longest < bestHours) {
                    bestHours = longest;
                    bestRow = i;
                }
            }
        }

        private int longestOf(int parted) {
            Arrays.fill(sets, 0);
            int rest = parted;
            for (int job = jobCount - 1; job >= 0 && workerCount > 0; job--) {
                sets[rest % workerCount] |= 1 << job;
                rest /= workerCount;
            }
            int longest = 0;
            for (int worker = 0; worker < workerCount; worker++) {
                longest = Math.max(longest, setHours[worker * JOB_SETS + sets[worker]]);
            }
            return longest;
        }
    }

    /** A stranger of whose tries only is told which counted. */
    private static final class Stranger {
        final Kinds kinds;
        final Judge judge;
        final int[] row = new int[MOST_CHOICE];
        final int[] alikes = new int[MOST_CHOICE];
        final int[] places = new int[MOST_HISTORY_TRIES];
        final int[] outcomes = new int[MOST_HISTORY_TRIES];
        final int[] now = new int[MOST_CHOICE];
        final int[] nextCounts = new int[MOST_CHOICE];
        int size;
        int triesTold;
        int fitting;
        int first;

        Stranger(Kinds kinds, Judge judge) {
            this.kinds = kinds;
            this.judge = judge;
        }

        boolean read(Tape tape, int m, int n) {
            size = Math.min(m, MOST_CHOICE);
            triesTold = Math.min(n, MOST_HISTORY_TRIES);
            int seen = 0;
            for (int i = 0; i < size; i++) {
                row[i] = tape.at(i);
                if (!kinds.knows(row[i]) || (seen >> row[i] & 1) == 1) {
                    return false;
                }
                seen |= 1 << row[i];
            }
            for (int i = 0; i < triesTold; i++) {
                places[i] = tape.at(size + 2 * i);
                outcomes[i] = tape.at(size + 2 * i + 1);
                if (places[i] < 0 || places[i] >= size || outcomes[i] < 0 || outcomes[i] > 1) {
                    return false;
                }
            }
            return true;
        }

        void goThrough(int v, int day) {
            fitting = 0;
            first = CANT;
            Arrays.fill(nextCounts, 0);
            for (int i = 0; i < size; i++) {
                alikes[i] = judge.alikes(row[i], day);
            }
            for (int history = 0; history < 1 << 2 * size; history++) {
                if (fits(history, v)) {
                    first = fitting == 0 ? history : first;
                    fitting++;
                    for (int i = 0; i < size; i++) {
                        nextCounts[i] += old(i) >= v ? 1 : 0;
                    }
                }
            }
        }

        int tellingPlace() {
            int best = 0;
            for (int i = 1; i < size; i++) {
                best = greaterPart(i) < greaterPart(best) ? i : best;
            }
            return best;
        }

        private int greaterPart(int place) {
            return Math.max(nextCounts[place], fitting - nextCounts[place]);
        }

        /** Goes through the told tries; behind one that fits, what the stranger has now stands. */
        private boolean fits(int history, int v) {
            for (int i = 0; i < size; i++) {
                now[i] = history >> 2 * (size - 1 - i) & 3;
            }
            for (int i = 0; i < triesTold; i++) {
                if ((old(places[i]) >= v ? 1 : 0) != outcomes[i]) {
                    return false;
                }
                now[places[i]]++;
            }
            return true;
        }

        private int old(int place) {
            int sum = 0;
            for (int i = 0; i < size; i++) {
                sum += (alikes[place] >> row[i] & 1) == 1 ? now[i] : 0;
            }
            return sum;
        }
    }
}
