/** The bounds of what is asked of a town and beside it (promises 14 to 21). */
public final class AskBoundsTest {
    private static final Due DUE = new Due();
    private static final int MIN = Integer.MIN_VALUE;
    private static final int MAX = Integer.MAX_VALUE;
    private static final int NONE = SecondTry.NONE;

    public static void main(String[] args) {
        waysRefused();
        soonestBounds();
        soonestOfThreeTries();
        soonestOfFourKinds();
        soonestAtNinetyNine();
        soonestAtFull();
        lettersNotTold();
        cheapestRefused();
        cheapestAtHours();
        cheapestOfThreeGoes();
        cheapestOfSellers();
        loopholeRefused();
        loopholeBounds();
        jobsRefused();
        jobsOfNoKinds();
        jobsOfPeople();
        jobsOfPlaces();
        jobsVoidTwenty();
        jobsLongest();
        jobsLeastRow();
        rivalsBounds();
        historiesRefused();
        historiesOfBytes();
        historiesOfNoKinds();
        historiesBounds();
        historiesNext();
        gameRefused();
        gameBounds();
        courtRefused();
        courtBounds();
        DUE.end("AskBoundsTest");
    }

    private static void is(String call, long got, long want) {
        DUE.is(call, got, want);
    }

    // ---- promises 14 and 15

    private static void refusesWay(SecondTry x, int p, int kinds, int k) {
        String of = "(" + p + ", " + kinds + ", " + k + ", ..)";
        DUE.refuses(x, "soonest" + of, NONE, () -> x.soonest(p, kinds, k, 0, 0));
        DUE.refuses(x, "cheapest" + of, NONE, () -> x.cheapest(p, kinds, k, 200, 0));
    }

    private static void waysRefused() {
        DUE.part("promises 14, 15, refused");
        SecondTry x = Towns.town();
        x.kind(4, 1, 0, 0);
        x.kind(11, 1, 0, 0);
        for (int p : new int[] {MIN, -1, 3, 7, 8, 32, MAX}) {
            refusesWay(x, p, 1, 0);
        }
        for (int kinds : new int[] {0, 31, 1 << 5, 1 | 1 << 10, 1 | 1 << 12, 1 | 1 << 31, MIN, MAX, -1, -2, 15 | 1 << 11}) {
            refusesWay(x, 0, kinds, 0);
        }
        for (int k : new int[] {MIN, -32, -1, 1, 4, 12, 32, 33, 34, MAX}) {
            refusesWay(x, 0, 5, k);
        }
        for (int goes : new int[] {MIN, -1, 4, 5, MAX}) {
            DUE.refuses(x, "goes " + goes, NONE, () -> x.soonest(0, 1, 0, goes, 0));
        }
        for (int what : new int[] {MIN, -1, 2, 10, MAX}) {
            DUE.refuses(x, "soonest what " + what, NONE, () -> x.soonest(0, 1, 0, 0, what));
            DUE.refuses(x, "cheapest what " + what, NONE, () -> x.cheapest(0, 1, 0, 200, what));
        }
    }

    private static void soonestBounds() {
        DUE.part("promise 14, taken");
        SecondTry x = Towns.full(0);
        DUE.refuses(x, "one KIND, no first goes", 2, () -> x.soonest(0, 1, 0, 0, 0));
        DUE.refuses(x, "the last of each", 2, () -> x.soonest(7, 1 << 11, 11, 0, 0));
        DUE.refuses(x, "four KINDS, three first goes", 1, () -> x.soonest(7, 15 << 8, 11, 3, 0));
        DUE.refuses(x, "TRIES", 2, () -> x.soonest(7, 15 << 8, 8, 0, 1));
        DUE.refuses(x, "TRIES", 1, () -> x.soonest(7, 15 << 8, 8, 1, 1));
        x.feed(0, 0, 0, 0, 0);
        DUE.refuses(x, "the tape stays", 2, () -> x.soonest(0, 1, 0, 0, 0));
    }

    /** Four kinds of 12 hours, each of which needs all lower ones of these: the longest way there is. */
    private static SecondTry chain(String law) {
        SecondTry x = new SecondTry();
        int needs = 0;
        for (int k : new int[] {1, 4, 6, 11}) {
            x.kind(k, 12, 0, needs);
            needs |= 1 << k;
        }
        x.person(3, 0);
        x.person(5, 0);
        is("law " + law, Towns.law(x, law) > 0 ? 1 : 0, 1);
        return x;
    }

    private static final int CHAIN = 1 << 1 | 1 << 4 | 1 << 6 | 1 << 11;

    private static void soonestOfThreeTries() {
        DUE.part("promise 14, three tries of each");
        for (int goes = 0; goes <= 3; goes++) {
            is("two are void", chain("v2(1=1)").soonest(3, CHAIN, 11, goes, 0), 144 - 12 * goes);
            is("two are void: TRIES", chain("v2(1=1)").soonest(3, CHAIN, 11, goes, 1), 12 - goes);
            is("three are void", chain("v3(1=1)").soonest(3, CHAIN, 11, goes, 0), -2);
            is("three are void: TRIES", chain("v3(1=1)").soonest(3, CHAIN, 11, goes, 1), -2);
            is("the first of the chain", chain("v2(1=1)").soonest(3, CHAIN, 1, goes, 0), 36 - 12 * Math.min(2, goes));
            is("without the first", chain("v2(1=1)").soonest(3, CHAIN & ~2, 11, goes, 0), -2);
            is("one is void", chain("v1(1=1)").soonest(3, CHAIN, 11, goes, 0), 96 - 12 * goes);
            is("none is void", chain("v0(1=1)").soonest(3, CHAIN, 11, goes, 0), 48);
        }
        SecondTry x = Towns.withLaw(DUE, "v3(1=1);a(1=1)");
        is("three first goes of another KIND", x.soonest(0, 9, 3, 3, 0), 4);
        is("two of another KIND", x.soonest(0, 9, 3, 2, 0), 5);
        is("three tries of another KIND", x.soonest(0, 9, 3, 0, 0), 7);
        Towns.law(x, "v6(1=1);a(1=1)");
        is("six are void: three of each do not suffice", x.soonest(0, 9, 3, 3, 0), -2);
        Towns.law(x, "v5(1=1);a(1=1)");
        is("five are void: just three of each", x.soonest(0, 9, 3, 0, 0), 3 + 12);
        is("five are void: the dear ones as first goes", x.soonest(0, 9, 3, 2, 0), 3 + 4);
    }

    /** Four kinds, and first goes for some: what counts of the dearest or the last one is no first go more. */
    private static void soonestOfFourKinds() {
        DUE.part("promise 14, four kinds");
        SecondTry x = fourKinds(new int[] {3, 12, 11, 1}, 1, "v2(k=1&n=1);v1(1=1)");
        is("two first goes of 1, two tries of 0", x.soonest(0, 15, 1, 2, 0), 12 + 2 * 3);
        is("TRIES", x.soonest(0, 15, 1, 2, 1), 3);
        is("two first goes of 1, one of 0", x.soonest(0, 15, 1, 3, 0), 12 + 3);
        is("one first go of 1", x.soonest(0, 15, 1, 1, 0), 2 * 12 + 2 * 3);
        is("none", x.soonest(0, 15, 1, 0, 0), 3 * 12 + 2 * 3);
        x = fourKinds(new int[] {1, 9, 10, 4}, 0, "v0(k=3&n=0);v5(1=1);a(1=1)");
        is("two tries of 0, one of 3, two first goes", x.soonest(0, 15, 0, 2, 0), 2 + 4 + 1);
        is("two tries of 0, three of 3", x.soonest(0, 15, 0, 0, 0), 2 + 3 * 4 + 1);
        is("two tries of 0, three first goes", x.soonest(0, 15, 0, 3, 0), 2 + 1);
    }

    /** Kinds 0 to 3 of told hours, 1 with told needs, and a person without coins. */
    private static SecondTry fourKinds(int[] hours, int needs, String law) {
        SecondTry x = new SecondTry();
        for (int k = 0; k < 4; k++) {
            x.kind(k, hours[k], 0, k == 1 ? needs : 0);
        }
        x.person(0, 0);
        is("law " + law, Towns.law(x, law) > 0 ? 1 : 0, 1);
        return x;
    }

    private static void soonestAtNinetyNine() {
        DUE.part("promise 14, 99 are void");
        SecondTry x = Towns.withLaw(DUE, "v99(1=1)");
        Towns.tries(x, 0, 0, 96);
        for (int goes = 0; goes <= 3; goes++) {
            is("96 do not suffice", x.soonest(0, 1, 0, goes, 0), -2);
        }
        x.tries(0, 0, NONE);
        is("97 suffice", x.soonest(0, 1, 0, 0, 0), 3);
        is("97 suffice: TRIES", x.soonest(0, 1, 0, 0, 1), 3);
        is("with a first go", x.soonest(0, 1, 0, 1, 0), 2);
        is("with two", x.soonest(0, 1, 0, 2, 0), 1);
        is("with three at most", x.soonest(0, 1, 0, 3, 0), 1);
        is("nothing was tried", x.has(0, 0, 0), 97);
    }

    private static void soonestAtFull() {
        DUE.part("promise 14, TRIES at 999");
        SecondTry x = Towns.town();
        x.kind(4, 5, 0, 1);
        Towns.tries(x, 0, 0, 1001);
        is("TRIES", x.has(0, 0, 0), 999);
        is("the next one counts", x.soonest(0, 1, 0, 0, 0), 1);
        is("for what it needs it has counted", x.soonest(0, 16, 4, 0, 0), 10);
        is("so it has for cheapest", x.cheapest(0, 16, 4, 10, 0), 0);
        Towns.goTo(x, 9999);
        is("on the last day, too", x.soonest(0, 16, 4, 1, 0), 5);
    }

    /** Where a letter is not told it is 0: j, y, m but in a; p, q, n, o, w in a. */
    private static void lettersNotTold() {
        DUE.part("letters that are not told");
        SecondTry x = new SecondTry();
        for (int k = 0; k < 12; k++) {
            x.kind(k, 2, 255, 0);
        }
        x.person(1, 0);
        x.person(2, 0);
        Towns.law(x, "a(1=1);v9*[j+y+m](1=1);f9*[j+y+m](1=1);c5+9*[j+y+m](1=1)");
        is("soonest: none is void", x.soonest(1, 15, 3, 0, 0), 2);
        is("jobs: none is void", Towns.jobs(x, 2, 10, 3, 2, 1), 6);
        is("a try: none is void", x.tries(2, 3, NONE), 1);
        is("has: v", x.has(2, 11, 4), 0);
        is("cost", x.cost(1, 3, 2), 5);
        Towns.law(x, "a(1=1);v1+9*[j+y+m](1=1);c5+9*[j+y+m](1=1)");
        is("cheapest", x.cheapest(1, 14, 3, 2, 0), 5);
        Towns.law(x, "a(p+q+n+o+w>0)");
        Towns.tries(x, 2, 3, 4);
        is("none are alike", x.alike(3, 2), 0);
        is("in a try none are", x.has(2, 4, 3), 0);
        is("in soonest none are", x.soonest(2, 24, 4, 0, 0), 4);
        is("in jobs none are", Towns.jobs(x, 4, 10, 4), 4);
        is("there is no loophole", x.loophole(8, 0, 1), 0);
        is("of a stranger none are", Towns.histories(x, new int[] {3, 4}, 1, 0, 0, 0), 4);
    }

    private static void cheapestRefused() {
        DUE.part("promise 15, refused");
        SecondTry x = Towns.town();
        for (int hours : new int[] {MIN, -1, 201, 202, MAX}) {
            DUE.refuses(x, "hours " + hours, NONE, () -> x.cheapest(0, 1, 0, hours, 0));
            DUE.refuses(x, "hours " + hours, NONE, () -> x.cheapest(0, 1, 0, hours, 1));
        }
        DUE.refuses(x, "hours 0", -2, () -> x.cheapest(0, 1, 0, 0, 0));
        DUE.refuses(x, "hours 0", -2, () -> x.cheapest(0, 1, 0, 0, 1));
        DUE.refuses(x, "hours 200", 0, () -> x.cheapest(0, 1, 0, 200, 0));
        DUE.refuses(x, "hours 200", 2, () -> x.cheapest(0, 1, 0, 200, 1));
        SecondTry y = Towns.full(0);
        DUE.refuses(y, "the last of each", 2, () -> y.cheapest(7, 15 << 8, 11, 200, 1));
    }

    private static void cheapestAtHours() {
        DUE.part("promise 15, within so many hours");
        SecondTry x = Towns.withLaw(DUE, "v2(1=1);c999(1=1)");
        x.person(0, 0);
        is("just enough", x.cheapest(0, 4, 2, 9, 0), 0);
        is("one too few, and none has one", x.cheapest(0, 4, 2, 8, 0), -2);
        is("one too few: HOURS", x.cheapest(0, 4, 2, 8, 1), -2);
        x.tries(1, 2, NONE);
        int[] hours = {200, 10, 9, 8, 7, 6, 5, 4, 3, 2, 1, 0};
        int[] coins = {0, 0, 0, 999, 999, 999, 1998, 1998, 1998, -2, -2, -2};
        int[] fewest = {9, 9, 9, 6, 6, 6, 3, 3, 3, -2, -2, -2};
        for (int i = 0; i < hours.length; i++) {
            is("COINS within " + hours[i], x.cheapest(0, 4, 2, hours[i], 0), coins[i]);
            is("HOURS within " + hours[i], x.cheapest(0, 4, 2, hours[i], 1), fewest[i]);
        }
        SecondTry y = chain("v2(1=1);c7(1=1)");
        is("the longest way", y.cheapest(3, CHAIN, 11, 144, 0), 0);
        is("the longest way", y.cheapest(3, CHAIN, 11, 200, 1), 144);
        is("an hour too few", y.cheapest(3, CHAIN, 11, 143, 0), -2);
        y.tries(5, 4, NONE);
        is("an hour too few", y.cheapest(3, CHAIN, 11, 143, 0), 7);
    }

    private static void cheapestOfThreeGoes() {
        DUE.part("promise 15, three together");
        SecondTry x = chain("v1(1=1);c1000(1=1)");
        for (int k : new int[] {1, 4, 6, 11}) {
            x.tries(5, k, NONE);
        }
        int[] hours = {96, 95, 84, 83, 72, 71, 60, 59};
        int[] coins = {0, 999, 999, 1998, 1998, 2997, 2997, -2};
        for (int i = 0; i < hours.length; i++) {
            is("COINS within " + hours[i], x.cheapest(3, CHAIN, 11, hours[i], 0), coins[i]);
            is("HOURS within " + hours[i], x.cheapest(3, CHAIN, 11, hours[i], 1), coins[i] < 0 ? -2 : 96 - coins[i] / 999 * 12);
        }
        Towns.law(x, "v3(1=1);c1(1=1)");
        is("they count in the 3", x.cheapest(3, CHAIN, 1, 200, 0), -2);
        Towns.law(x, "v2(1=1)");
        is("for nothing: COINS", x.cheapest(3, CHAIN, 1, 200, 0), 0);
        is("for nothing: HOURS", x.cheapest(3, CHAIN, 1, 200, 1), 12);
    }

    private static void cheapestOfSellers() {
        DUE.part("promise 15, sellers");
        SecondTry x = Towns.withLaw(DUE, "c10*q+p(1=1)");
        is("none has one", x.cheapest(0, 4, 2, 3, 0), -2);
        x.tries(0, 2, NONE);
        x.tries(0, 2, NONE);
        is("it counts by its own", x.cheapest(0, 4, 2, 3, 0), 0);
        is("of 0 at 0", x.cheapest(1, 4, 2, 3, 0), 1);
        x.tries(2, 2, NONE);
        is("the least asks 1", x.cheapest(1, 4, 2, 3, 0), 1);
        x.buys(1, 2, 0);
        x.buys(1, 2, 0);
        x.person(3, 0);
        is("of those who have one", x.cheapest(3, 4, 2, 3, 0), 13);
        is("none of its own", x.cheapest(0, 4, 2, 3, 0), 10);
        is("who sold all has none", x.cheapest(2, 4, 2, 2, 0), -2);
    }

    // ---- promise 16

    private static void loopholeRefused() {
        DUE.part("promise 16, refused");
        SecondTry x = Towns.withLaw(DUE, "a(m=0)");
        x.kind(11, 1, 0, 0);
        for (int bits : new int[] {1 << 4, 1 << 10, 1 << 12, 1 << 30, MIN, MAX, -1, 16 | 1}) {
            DUE.refuses(x, "to " + bits, NONE, () -> x.loophole(bits, 0, 0));
            DUE.refuses(x, "not " + bits, NONE, () -> x.loophole(0, bits, 0));
        }
        DUE.refuses(x, "of both", NONE, () -> x.loophole(1, 1, 0));
        DUE.refuses(x, "of both", NONE, () -> x.loophole(7, 12, 1));
        DUE.refuses(x, "of both", NONE, () -> x.loophole(1 << 11, 1 << 11, 0));
        for (int what : new int[] {MIN, -1, 2, MAX}) {
            DUE.refuses(x, "what " + what, NONE, () -> x.loophole(1, 2, what));
        }
        DUE.refuses(x, "to none, not to none", 0, () -> x.loophole(0, 0, 0));
        DUE.refuses(x, "how many", 256, () -> x.loophole(0, 0, 1));
    }

    private static void loopholeBounds() {
        DUE.part("promise 16, all and none");
        SecondTry x = Towns.full(0);
        is("without an a none to one", x.loophole(1, 0, 0), -2);
        is("without an a none to one", x.loophole(1, 0, 1), 0);
        is("without an a all to none", x.loophole(0, 4095, 1), 256);
        Towns.law(x, "a(1=1)");
        is("to all", x.loophole(4095, 0, 0), 0);
        is("to all", x.loophole(4095, 0, 1), 256);
        is("not to all", x.loophole(0, 4095, 0), -2);
        is("not to all", x.loophole(0, 4095, 1), 0);
        is("to some and not to others", x.loophole(4094, 1, 0), -2);
        Towns.law(x, "a(x=255&j=11)");
        is("all MARKS to the last", x.loophole(1 << 11, 2047, 0), 255);
        is("one", x.loophole(1 << 11, 2047, 1), 1);
        Towns.law(x, "a(x=0&j=0)");
        is("no MARKS to the first", x.loophole(1, 4094, 0), 0);
        Towns.law(x, "a(x>255)");
        is("no more than 255", x.loophole(1, 0, 1), 0);
        Towns.law(x, "a(x=3|x=128|x=64)");
        is("fewest MARKS, then the least number", x.loophole(1, 0, 0), 64);
        Towns.law(x, "a(k=12&h=1)");
        is("a KIND 12 of an hour", x.loophole(1, 0, 1), 256);
        Towns.law(x, "a(k<12|h>1|p+q+n+o+w>0)");
        is("and no other one", x.loophole(1, 0, 1), 0);
    }

    // ---- promise 17

    private static void jobsRefused() {
        DUE.part("promise 17, refused");
        SecondTry x = Towns.town();
        for (int n : new int[] {MIN, -1, 0, 1, 8, 9, MAX}) {
            DUE.refuses(x, "jobs(" + n + ") of an empty tape", NONE, () -> x.jobs(n, 1, 10));
        }
        for (int i = 0; i < 13; i++) {
            x.feed(0, 0, 0, 0, 0);
        }
        for (int n : new int[] {MIN, -1, 0, 9, 10, 260, MAX}) {
            DUE.refuses(x, "jobs(" + n + ") of 260 bytes", NONE, () -> x.jobs(n, 1, 10));
            DUE.refuses(x, "jobs(" + n + ") of no people", NONE, () -> x.jobs(n, 0, -5));
        }
        DUE.empties(x, "jobs(8) of 260 bytes", 9, () -> x.jobs(8, 1, 10));
        x.feed(0x03000000, 0, 0, 0, 0);
        DUE.empties(x, "jobs(1)", 8, () -> x.jobs(1, 1, 10));
    }

    private static void jobsOfNoKinds() {
        DUE.part("promise 17, no such kinds");
        SecondTry x = Towns.town();
        x.kind(11, 1, 0, 0);
        for (int k : new int[] {4, 10, 12, 13, 32, 128, 255}) {
            for (int place = 0; place < 8; place++) {
                int[] row = new int[8];
                row[place] = k;
                Towns.feed(x, Towns.bytes(row));
                DUE.empties(x, "a KIND " + k + " at " + place, -2, () -> x.jobs(8, 1, 10));
                if (place > 0) {
                    int n = place;
                    Towns.feed(x, Towns.bytes(row));
                    DUE.empties(x, "behind the n first ones it does not matter", n + 1, () -> x.jobs(n, 1, 10));
                }
            }
        }
        is("the last KIND", Towns.jobs(x, 1, 10, 11), 2);
    }

    private static void jobsOfPeople() {
        DUE.part("promise 17, no such people");
        SecondTry x = Towns.town();
        x.person(7, 0);
        for (int people : new int[] {0, 8, 64, 9, 256, 257, 7 | 128, 1 << 31 | 1, MIN, MAX, -1}) {
            x.feed(0, 0, 0, 0, 0);
            DUE.empties(x, "people " + people, -4, () -> x.jobs(1, people, 10));
        }
        int[] taken = {1, 2, 128, 3, 130, 7, 133};
        for (int people : taken) {
            x.feed(0, 0, 0, 0, 0);
            DUE.empties(x, "people " + people, 2, () -> x.jobs(1, people, 10));
        }
        is("the last PERSON", Towns.jobs(x, 128, 0, 0), 7);
    }

    private static void jobsOfPlaces() {
        DUE.part("promise 17, no such place");
        SecondTry x = Towns.town();
        for (int n = 1; n <= 8; n++) {
            int size = n;
            for (int what : new int[] {MIN, -1, n, n == 8 ? 9 : 8, 9, 11, MAX}) {
                x.feed(0, 0, 0, 0, 0);
                DUE.empties(x, "place " + what + " of " + n, -4, () -> x.jobs(size, 1, what));
            }
            for (int what = 0; what < n; what++) {
                is("place " + what + " of " + n, Towns.jobs(x, 4, what, new int[n]), 2);
            }
        }
    }

    /** A kind that is void 20 times on end: never. */
    private static void jobsVoidTwenty() {
        DUE.part("promise 17, void 20 times");
        SecondTry x = Towns.withLaw(DUE, "v19(k=0);v20(k=1);v99(k=2);v0(1=1)");
        is("19 times", Towns.jobs(x, 1, 10, 0), 20);
        is("20 times", Towns.jobs(x, 1, 10, 1), -3);
        is("99 times", Towns.jobs(x, 7, 10, 2), -3);
        is("no row", Towns.jobs(x, 7, 0, 0, 1), -3);
        is("none is void", Towns.jobs(x, 1, 10, 3), 4);
        x.tries(2, 1, NONE);
        is("one of three has one already", Towns.jobs(x, 7, 10, 1), 40);
        is("the PERSON of it", Towns.jobs(x, 7, 0, 1), 2);
        Towns.law(x, "v19(w=0);v39(1=1)");
        is("19 times, then 19 times again", Towns.jobs(x, 1, 10, 0, 0), 40);
        Towns.law(x, "v19(w=0);v40(1=1)");
        is("19 times, then 20 times", Towns.jobs(x, 1, 10, 0, 0), -3);
        is("by two, 19 times each", Towns.jobs(x, 3, 10, 0, 0), 20);
        x.kind(4, 1, 0, 1);
        Towns.law(x, "v0(1=1)");
        is("what it NEEDS has not COUNTED then", Towns.jobs(x, 1, 10, 4, 0), -3);
        is("it has", Towns.jobs(x, 1, 10, 0, 4), 2);
    }

    private static void jobsLongest() {
        DUE.part("promise 17, the longest");
        SecondTry x = new SecondTry();
        x.kind(0, 12, 0, 0);
        x.kind(11, 12, 0, 0);
        x.person(6, 0);
        Towns.law(x, "v20*w+19(1=1)");
        is("eight of 20 tries of 12 hours", Towns.jobs(x, 64, 10, 0, 0, 0, 0, 0, 11, 11, 11), 1920);
        is("a sixth: v is 99 at most, and it has 100", Towns.jobs(x, 64, 10, 0, 0, 0, 0, 0, 0), 1200 + 12);
        is("nothing is changed", x.count(96), 0);
    }

    /** The least row: by jobs the place of the person. */
    private static void jobsLeastRow() {
        DUE.part("promise 17, the least row");
        SecondTry x = Towns.full(0);
        int people = 1 << 2 | 1 << 5 | 1 << 7;
        int[] due = {2, 5, 7};
        for (int job = 0; job < 3; job++) {
            is("three of a kind by three", Towns.jobs(x, people, job, 0, 0, 0), due[job]);
        }
        int[] eight = {2, 2, 2, 5, 5, 5, 7, 7};
        int[] row = {0, 0, 0, 0, 0, 0, 0, 0};
        for (int job = 0; job < 8; job++) {
            is("eight of a kind by three", Towns.jobs(x, people, job, row), eight[job]);
        }
        is("the one that takes longest", Towns.jobs(x, people, 10, row), 4);
        is("one by the first", Towns.jobs(x, people, 0, 3), 2);
        x.tries(7, 3, NONE);
        is("one by whom it takes least", Towns.jobs(x, people, 0, 3), 7);
        is("where another job takes as long, the least row", Towns.jobs(x, people, 0, 3, 4), 2);
        is("where another job takes as long, the least row", Towns.jobs(x, people, 1, 3, 4), 5);
    }

    // ---- promise 18

    private static void rivalsBounds() {
        DUE.part("promise 18");
        SecondTry x = new SecondTry();
        for (int pence : new int[] {MIN, -1, 1000, 1001, MAX}) {
            DUE.refuses(x, "lost " + pence, NONE, () -> x.rivals(pence, 0, 0));
            DUE.refuses(x, "won " + pence, NONE, () -> x.rivals(0, pence, 0));
        }
        for (int what : new int[] {MIN, -1, 2, MAX}) {
            DUE.refuses(x, "what " + what, NONE, () -> x.rivals(5, 5, what));
        }
        int[] edges = {0, 1, 2, 3, 4, 998, 999};
        for (int lost : edges) {
            for (int won : edges) {
                // both wait, where to begin alone loses 1 at least; one begins, where that loses 1 at most
                int rows = (lost >= 1 ? 1 : 0) + (lost <= 1 ? 2 : 0) + (lost <= 1 && won == 0 ? 1 : 0);
                is("rows of " + lost + ", " + won, x.rivals(lost, won, 0), rows);
                is("the lowest of " + lost + ", " + won, x.rivals(lost, won, 1), lost == 0 ? 1 : 0);
            }
        }
    }

    // ---- promise 19

    private static void refusesHistories(SecondTry x, int m, int n, int v, int what) {
        DUE.refuses(x, "histories(" + m + ", " + n + ", " + v + ", " + what + ")", NONE, () -> x.histories(m, n, v, what));
    }

    private static void historiesRefused() {
        DUE.part("promise 19, refused");
        SecondTry x = Towns.town();
        refusesHistories(x, 1, 0, 0, 0);
        for (int i = 0; i < 13; i++) {
            x.feed(0, 0, 0, 0, 0);
        }
        for (int wrong : new int[] {MIN, -1, MAX}) {
            refusesHistories(x, wrong, 1, 1, 0);
            refusesHistories(x, 1, wrong, 1, 0);
            refusesHistories(x, 1, 1, wrong, 0);
            refusesHistories(x, 1, 1, 1, wrong);
        }
        refusesHistories(x, 0, 1, 1, 0);
        refusesHistories(x, 5, 1, 1, 0);
        refusesHistories(x, 1, 11, 1, 0);
        refusesHistories(x, 1, 1 << 30, 1, 0);
        refusesHistories(x, 1, 1, 10, 0);
        refusesHistories(x, 1, 1, 1, 3);
        DUE.empties(x, "n 10, v 9: ten void ones fit none", 0, () -> x.histories(1, 10, 9, 0));
    }

    /** It takes m + 2 n bytes. */
    private static void historiesOfBytes() {
        DUE.part("promise 19, bytes");
        SecondTry x = Towns.town();
        x.feed(0x00010203, 0, 0, 0, 0);
        refusesHistories(x, 1, 10, 0, 0);
        refusesHistories(x, 2, 10, 0, 0);
        refusesHistories(x, 3, 9, 0, 0);
        refusesHistories(x, 4, 9, 0, 0);
        DUE.empties(x, "20 bytes of 20: eight void ones", 2 << 6, () -> x.histories(4, 8, 9, 0));
        x.feed(0x00010000, 0, 0, 0, 0);
        DUE.empties(x, "20 bytes of 20: nine void ones", 4, () -> x.histories(2, 9, 9, 0));
        x.feed(0, 0, 0, 0, 0);
        DUE.empties(x, "19 bytes of 20: nine void ones", 1, () -> x.histories(1, 9, 9, 0));
        x.feed(0x00010203, 0, 0, 0, 0);
        x.feed(0, 0, 0, 0, 0);
        DUE.empties(x, "24 bytes of 40: ten void ones", 0, () -> x.histories(4, 10, 9, 0));
        x.feed(0x03000000, 0, 0, 0, 0);
        DUE.empties(x, "one byte of 20", 4, () -> x.histories(1, 0, 0, 0));
    }

    private static void historiesOfNoKinds() {
        DUE.part("promise 19, no such kinds or places");
        SecondTry x = Towns.town();
        x.kind(11, 1, 0, 0);
        int[][] kinds = {{4}, {10}, {12}, {255}, {0, 0}, {0, 1, 2, 0}, {0, 1, 2, 2}, {11, 11}, {0, 1, 2, 4}};
        for (int[] row : kinds) {
            Towns.feed(x, Towns.bytes(row));
            DUE.empties(x, "KINDS, the last of them " + row[row.length - 1], -3, () -> x.histories(row.length, 0, 0, 0));
        }
        for (int m = 1; m <= 4; m++) {
            int size = m;
            int[] row = {0, 1, 2, 11};
            for (int place : new int[] {m, 4, 11, 255}) {
                Towns.feed(x, Towns.bytes(row).substring(0, m) + Towns.bytes(0, 1, place, 1));
                DUE.empties(x, "place " + place + " of " + m, -3, () -> x.histories(size, 2, 0, 0));
                Towns.feed(x, Towns.bytes(row).substring(0, m) + Towns.bytes(0, 1, place, 1));
                DUE.empties(x, "behind the tries it does not matter", 1 << 2 * m, () -> x.histories(size, 1, 0, 0));
            }
            Towns.feed(x, Towns.bytes(row).substring(0, m) + Towns.bytes(m - 1, 1));
            DUE.empties(x, "the last place of " + m, 1 << 2 * m, () -> x.histories(size, 1, 0, 0));
        }
        for (int counted : new int[] {2, 3, 128, 255}) {
            Towns.feed(x, Towns.bytes(0, 0, counted));
            DUE.empties(x, "neither 1 nor 0", -3, () -> x.histories(1, 1, 0, 0));
        }
    }

    private static void historiesBounds() {
        DUE.part("promise 19, none and all");
        SecondTry x = Towns.town();
        int[] four = {0, 1, 2, 3};
        is("all of one", Towns.histories(x, new int[] {3}, 0, 0), 4);
        is("all of four", Towns.histories(x, four, 9, 0), 256);
        is("the first", Towns.histories(x, four, 9, 1), 0);
        is("with v 0 all count", Towns.histories(x, four, 0, 0, 0, 1, 3, 1), 256);
        is("with v 0 none is void", Towns.histories(x, four, 0, 0, 0, 0), 0);
        is("no first", Towns.histories(x, four, 0, 1, 0, 0), -2);
        is("three each", Towns.histories(x, four, 3, 0, 0, 1, 1, 1, 2, 1, 3, 1), 1);
        is("the last number", Towns.histories(x, four, 3, 1, 0, 1, 1, 1, 2, 1, 3, 1), 255);
        is("the first place is highest", Towns.histories(x, four, 3, 1, 0, 1), 192);
        is("the last place is lowest", Towns.histories(x, four, 3, 1, 3, 1), 3);
        is("none had four", Towns.histories(x, four, 4, 0, 0, 1), 0);
        int[] one = {2};
        is("v 9: nine void ones, then it counts", Towns.histories(x, one, 9, 1, 0, 0, 0, 0, 0, 0, 0, 0, 0, 0, 0, 0, 0, 0, 0, 0, 0, 0, 0, 1), 0);
        is("v 9: six void ones, then it counts", Towns.histories(x, one, 9, 1, 0, 0, 0, 0, 0, 0, 0, 0, 0, 0, 0, 0, 0, 1, 0, 1, 0, 1, 0, 1), 3);
        is("v 9: five void ones", Towns.histories(x, one, 9, 0, 0, 0, 0, 0, 0, 0, 0, 0, 0, 0, 0, 1, 0, 1, 0, 1, 0, 1, 0, 1), 0);
        Towns.law(x, "a(1=1)");
        is("all alike: nine together", Towns.histories(x, four, 9, 1, 2, 1), 63);
    }

    private static void historiesNext() {
        DUE.part("promise 19, the next one");
        SecondTry x = Towns.town();
        int[] four = {0, 1, 2, 3};
        is("all are like", Towns.histories(x, four, 2, 2), 0);
        is("the first is known", Towns.histories(x, four, 2, 2, 0, 1), 1);
        is("the last one is left", Towns.histories(x, four, 2, 2, 0, 1, 1, 1, 2, 1), 3);
        is("v 0 tells nothing of any", Towns.histories(x, four, 0, 2), 0);
        is("none fits: the lowest", Towns.histories(x, four, 0, 2, 3, 0), 0);
        is("one place", Towns.histories(x, new int[] {3}, 2, 2), 0);
        Towns.law(x, "a(k<j)");
        int[] two = {0, 1};
        is("one and one part better than two and none", Towns.histories(x, two, 2, 2, 0, 0, 0, 1, 1, 0), 1);
        is("two and one part better than none and three", Towns.histories(x, two, 2, 2, 0, 0), 0);
    }

    // ---- promise 20

    private static void gameRefused() {
        DUE.part("promise 20, refused");
        SecondTry x = Towns.town();
        for (int heap : new int[] {MIN, -8, -1, 8, 9, 512, MAX}) {
            for (int what = 0; what <= 1; what++) {
                int asked = what;
                DUE.refuses(x, "a " + heap, NONE, () -> x.game(heap, 1, 1, true, true, asked));
                DUE.refuses(x, "b " + heap, NONE, () -> x.game(1, heap, 1, true, false, asked));
                DUE.refuses(x, "c " + heap, NONE, () -> x.game(1, 1, heap, false, true, asked));
            }
        }
        for (int what : new int[] {MIN, -1, 2, MAX}) {
            DUE.refuses(x, "what " + what, NONE, () -> x.game(1, 1, 1, true, true, what));
        }
        DUE.refuses(x, "the largest heaps", 1, () -> x.game(7, 7, 7, true, true, 0));
    }

    private static void gameBounds() {
        DUE.part("promise 20, empty and full");
        SecondTry x = new SecondTry();
        for (int flags = 0; flags < 4; flags++) {
            boolean moved = (flags & 1) == 1;
            boolean other = (flags & 2) == 2;
            is("no heaps: who can't move loses", x.game(0, 0, 0, moved, other, 0), 0);
            is("no heaps: no move", x.game(0, 0, 0, moved, other, 1), -2);
        }
        is("three are taken at most", x.game(4, 0, 0, true, true, 1), -2);
        is("three are taken", x.game(3, 0, 0, true, true, 1), 3);
        is("of seven", x.game(0, 7, 0, true, true, 1), 13);
        is("of the last", x.game(0, 0, 7, true, true, 1), 23);
        is("of three full ones", x.game(7, 7, 7, true, true, 1), 3);
        is("two full ones", x.game(7, 0, 7, true, true, 1), -2);
        is("so many must lie there: one", x.game(1, 2, 3, true, true, 1), -2);
        is("a void move where one lies", x.game(0, 0, 4, false, true, 1), 21);
        is("a void move that loses", x.game(0, 0, 1, false, true, 1), -2);
        is("two void moves", x.game(0, 1, 0, false, false, 1), 11);
        is("of the first that is not empty", x.game(0, 3, 2, false, false, 1), 11);
        is("a move against a void one, of 1", x.game(0, 0, 1, true, false, 1), 21);
        is("a move against a void one, of 5", x.game(5, 0, 0, true, false, 1), 2);
        is("a move against a void one, of 4", x.game(4, 0, 0, true, false, 1), 1);
    }

    // ---- promise 21

    private static void courtRefused() {
        DUE.part("promise 21, refused");
        SecondTry x = Towns.town();
        for (int n : new int[] {MIN, -1, 0, 10, 31, 32, 33, MAX}) {
            DUE.refuses(x, "n " + n, NONE, () -> x.court(n, 0, 0, 0, 0, 0));
        }
        for (int n = 1; n <= 9; n++) {
            int size = n;
            for (int row : new int[] {MIN, -1, 1 << n, MAX}) {
                DUE.refuses(x, "first " + row + " of " + n, NONE, () -> x.court(size, row, 0, 0, 0, 0));
                DUE.refuses(x, "greater " + row + " of " + n, NONE, () -> x.court(size, 0, row, 0, 0, 0));
                DUE.refuses(x, "others " + row + " of " + n, NONE, () -> x.court(size, 0, 0, row, 0, 0));
            }
            for (int least : new int[] {MIN, -1, n + 1, MAX}) {
                DUE.refuses(x, "least " + least + " of " + n, NONE, () -> x.court(size, 0, 0, 0, least, 0));
            }
            int all = (1 << n) - 1;
            DUE.refuses(x, "all rows full, of " + n, n, () -> x.court(size, all, all, all, size, 0));
            DUE.refuses(x, "all rows empty, of " + n, 0, () -> x.court(size, 0, 0, 0, 0, 0));
        }
        for (int what : new int[] {MIN, -1, 3, MAX}) {
            DUE.refuses(x, "what " + what, NONE, () -> x.court(3, 0, 0, 0, 0, what));
        }
    }

    private static void courtBounds() {
        DUE.part("promise 21, halves");
        SecondTry x = new SecondTry();
        for (int n = 1; n <= 9; n++) {
            int all = (1 << n) - 1;
            for (int guilty = 0; guilty <= n; guilty++) {
                int first = (1 << guilty) - 1;
                is("nobody changes: the verdict", x.court(n, first, 0, 0, Math.min(n, guilty + 1), 1), verdictIfKept(n, guilty));
                for (int least = 0; least <= n; least++) {
                    boolean changes = guilty >= least;
                    boolean guiltyAreGreater = guilty > n - guilty || guilty == n - guilty;
                    int greater = guiltyAreGreater ? guilty : n - guilty;
                    String call = guilty + " of " + n + ", at least " + least;
                    is(call + ": the greater part alone", x.court(n, first, all, 0, least, 0), changes ? greater : guilty);
                    is(call + ": the others alone", x.court(n, first, 0, all, least, 0), changes ? n - greater : guilty);
                    is(call + ": all change", x.court(n, first, all & ~first, all & ~first, least, 2), changes ? n : 0);
                    is(call + ": nobody does", x.court(n, first, first, first, least, 2), 0);
                }
            }
        }
        is("half of eight is not more than half", x.court(8, 15, 15, 0, 0, 1), 0);
        is("five of eight", x.court(8, 31, 31, 0, 0, 1), 1);
        is("four of nine", x.court(9, 15, 0, 15, 0, 1), 0);
        is("five of nine", x.court(9, 31, 31, 0, 0, 1), 1);
    }

    /** Where all of them are guilty and as many are asked, all become what the empty rows tell. */
    private static int verdictIfKept(int n, int guilty) {
        return guilty < n && 2 * guilty > n ? 1 : 0;
    }
}
