/** The bounds of what is told, tried, bought, kept and counted (promises 1 to 4, 7 to 13, 22 to 25). */
public final class TownBoundsTest {
    private static final Due DUE = new Due();
    private static final int MIN = Integer.MIN_VALUE;
    private static final int MAX = Integer.MAX_VALUE;
    private static final int NONE = SecondTry.NONE;

    public static void main(String[] args) {
        nothingTold();
        noLaw();
        twoTowns();
        kindsRefused();
        kindsTaken();
        kindsFull();
        peopleRefused();
        peopleTaken();
        tapeFull();
        tapeOrder();
        triesRefused();
        triesAtTheirVoid();
        triesFull();
        triesForNeeds();
        forgottenAtItsDay();
        forgottenAtBounds();
        buysRefused();
        buysAtCoins();
        buysAtTries();
        daysRefused();
        hoursOfADay();
        stepsPassedOver();
        stepsOfFortyOverDays();
        peopleByNumbers();
        lastDay();
        triedRefused();
        triedStalls();
        hasRefused();
        hasAsks();
        alikeBounds();
        costBounds();
        keptAndUndone();
        keptWholly();
        keptThroughAll();
        checkRefused();
        checkPlaces();
        countOfNone();
        countOfAll();
        DUE.end("TownBoundsTest");
    }

    private static void is(String call, long got, long want) {
        DUE.is(call, got, want);
    }

    private static void is(String call, boolean got, boolean want) {
        DUE.is(call, got, want);
    }

    // ---- promise 1

    /** No kinds and no people: whatever asks for one is refused, whatever asks for none is not. */
    private static void nothingTold() {
        DUE.part("promise 1, nothing told");
        SecondTry x = new SecondTry();
        for (int what = 0; what <= 4; what++) {
            is("count(" + what + ")", x.count(what), 0);
        }
        for (int what = 5; what <= 110; what++) {
            is("count(" + what + ")", x.count(what), NONE);
        }
        DUE.refuses(x, "tries", NONE, () -> x.tries(0, 0, NONE));
        DUE.refuses(x, "buys", NONE, () -> x.buys(0, 0, 1));
        DUE.refuses(x, "has", NONE, () -> x.has(0, 0, 0));
        DUE.refuses(x, "alike", NONE, () -> x.alike(0, 0));
        DUE.refuses(x, "cost", NONE, () -> x.cost(0, 0, 1));
        DUE.refuses(x, "soonest", NONE, () -> x.soonest(0, 1, 0, 0, 0));
        DUE.refuses(x, "cheapest", NONE, () -> x.cheapest(0, 1, 0, 0, 0));
        DUE.refuses(x, "loophole to one", NONE, () -> x.loophole(1, 0, 0));
        DUE.refuses(x, "tried of a person", NONE, () -> x.tried(1, 10));
        DUE.refuses(x, "undo", 0, () -> x.undo() ? 1 : 0);
        DUE.refuses(x, "law of an empty tape", NONE, () -> x.law(1));
        DUE.refuses(x, "plan of an empty tape", NONE, () -> x.plan(0, 1));
        DUE.refuses(x, "jobs of an empty tape", NONE, () -> x.jobs(1, 1, 10));
        DUE.refuses(x, "histories of an empty tape", NONE, () -> x.histories(1, 0, 0, 0));
        DUE.refuses(x, "check", -2, () -> x.check(0, 0));
        is("loophole to none", x.loophole(0, 0, 0), 0);
        is("how many to none", x.loophole(0, 0, 1), 256);
        is("tries of a day", x.tried(1, 0), 0);
        is("it does not stall", x.tried(1, 2), -2);
        is("a day", x.days(1), 0);
        is("THE DAY", x.count(0), 1);
        is("keep", x.keep(), 1);
        is("undo", x.undo(), true);
    }

    private static void noLaw() {
        DUE.part("promise 1, no law");
        SecondTry x = Towns.full(5);
        is("no clauses", x.count(3), 0);
        is("one try is void", x.has(0, 0, 4), 1);
        is("none are alike", x.alike(0, 1), 0);
        is("each is alike itself", x.alike(11, 11), 1);
        is("a first go costs nothing", x.cost(0, 0, 1), 0);
        is("no tries", x.has(7, 11, 0), 0);
        is("none counted", x.has(7, 11, 1), 0);
        is("no last day", x.has(7, 11, 2), -2);
        is("no plan", x.count(87), 0);
        is("the first", x.tries(7, 11, NONE), 0);
        Towns.goTo(x, 1200);
        is("nothing is ever forgotten", x.tries(7, 11, NONE), 1);
    }

    private static void twoTowns() {
        DUE.part("all memory is the town's own");
        SecondTry x = new SecondTry();
        SecondTry y = new SecondTry();
        x.kind(0, 1, 0, 0);
        x.person(0, 1);
        Towns.law(x, "v0(1=1)");
        x.feed(1, 2, 3, 4, 5);
        x.days(1);
        x.keep();
        for (int what = 0; what <= 4; what++) {
            is("count(" + what + ") of the other", y.count(what), 0);
        }
        is("undo of the other", y.undo(), false);
    }

    // ---- promise 2

    private static void refusesKind(SecondTry x, int k, int hours, int marks, int needs) {
        DUE.refuses(x, "kind(" + k + ", " + hours + ", " + marks + ", " + needs + ")", 0,
            () -> x.kind(k, hours, marks, needs) ? 1 : 0);
    }

    private static void kindsRefused() {
        DUE.part("promise 2, refused");
        SecondTry x = new SecondTry();
        x.kind(0, 3, 5, 0);
        x.kind(2, 4, 6, 0);
        x.kind(7, 2, 1, 0);
        for (int k : new int[] {MIN, -32, -31, -1, 12, 13, 31, 32, 33, 44, MAX}) {
            refusesKind(x, k, 1, 0, 0);
        }
        for (int hours : new int[] {MIN, -1, 0, 13, 14, 268, MAX}) {
            refusesKind(x, 5, hours, 0, 0);
        }
        for (int marks : new int[] {MIN, -256, -1, 256, 257, MAX}) {
            refusesKind(x, 5, 1, marks, 0);
        }
        int[] needs = {1 << 5, 1 << 7, 1 << 6, 1 << 1, 1 << 4, 1 | 1 << 5, 1 | 1 << 7, 1 | 1 << 1, 1 << 11, 1 << 12, 1 << 30, MIN, MIN | 1, -1, MAX};
        for (int bits : needs) {
            refusesKind(x, 5, 1, 0, bits);
        }
        refusesKind(x, 0, 3, 5, 0);
        refusesKind(x, 2, 12, 255, 1);
        is("told kinds", x.count(1), 1 | 1 << 2 | 1 << 7);
        is("kind 5 is still free", x.kind(5, 1, 0, 1 | 1 << 2), true);
    }

    private static void kindsTaken() {
        DUE.part("promise 2, taken");
        int[][] rows = {{0, 1, 0}, {0, 12, 255}, {11, 1, 255}, {11, 12, 0}};
        for (int[] row : rows) {
            SecondTry x = new SecondTry();
            is("the bound is taken", x.kind(row[0], row[1], row[2], 0), true);
            is("told kinds", x.count(1), 1 << row[0]);
            is("HOURS", x.count(10 + row[0]), row[1]);
            is("MARKS", x.count(30 + row[0]), row[2]);
            is("NEEDS", x.count(50 + row[0]), 0);
        }
        SecondTry x = new SecondTry();
        is("0 needs itself", x.kind(0, 1, 0, 1), false);
        is("0", x.kind(0, 1, 0, 0), true);
        is("1 needs the one right below", x.kind(1, 1, 0, 1), true);
    }

    private static void kindsFull() {
        DUE.part("promise 2, all told");
        SecondTry x = new SecondTry();
        for (int k = 0; k < 12; k++) {
            is("needs all that are lower", x.kind(k, k + 1, 20 * k, (1 << k) - 1), true);
        }
        is("told kinds", x.count(1), 4095);
        for (int k = -1; k <= 12; k++) {
            refusesKind(x, k, 1, 0, 0);
        }
        for (int k = 0; k < 12; k++) {
            is("HOURS", x.count(10 + k), k + 1);
            is("MARKS", x.count(30 + k), 20 * k);
            is("NEEDS", x.count(50 + k), (1 << k) - 1);
        }
    }

    // ---- promise 3

    private static void peopleRefused() {
        DUE.part("promise 3, refused");
        SecondTry x = new SecondTry();
        x.person(3, 7);
        for (int p : new int[] {MIN, -29, -1, 8, 9, 31, 32, 35, MAX}) {
            DUE.refuses(x, "person(" + p + ", 0)", 0, () -> x.person(p, 0) ? 1 : 0);
        }
        for (int coins : new int[] {MIN, -1, 100000, 100001, MAX}) {
            DUE.refuses(x, "person(3, " + coins + ")", 0, () -> x.person(3, coins) ? 1 : 0);
            DUE.refuses(x, "person(4, " + coins + ")", 0, () -> x.person(4, coins) ? 1 : 0);
        }
        is("told people", x.count(2), 8);
        is("COINS stay", x.count(73), 7);
    }

    private static void peopleTaken() {
        DUE.part("promise 3, taken");
        SecondTry x = new SecondTry();
        for (int p = 0; p < 8; p++) {
            is("no coins", x.person(p, 0), true);
            is("told people", x.count(2), (2 << p) - 1);
            is("COINS", x.count(70 + p), 0);
        }
        x.kind(0, 1, 0, 0);
        Towns.plan(x, 7, "0,0,0");
        x.days(1);
        Towns.plan(x, 7, "0,0");
        is("other COINS", x.person(7, 99999), true);
        is("COINS", x.count(77), 99999);
        is("TRIES stay", x.has(7, 0, 0), 3);
        is("COUNTED stay", x.has(7, 0, 1), 2);
        is("the DAY of the last one stays", x.has(7, 0, 2), 0);
        is("the PLAN stays", x.count(87), 2);
        is("others stay", x.count(76), 0);
        is("fewer COINS", x.person(7, 0), true);
        is("COINS", x.count(77), 0);
    }

    // ---- promise 4

    private static void tapeFull() {
        DUE.part("promise 4, full");
        SecondTry x = Towns.town();
        x.tries(0, 0, NONE);
        for (int i = 1; i <= 12; i++) {
            is("feed", x.feed(1, 0, 0, 0, 0), 20 * i);
        }
        is("240 take twenty more", x.feed(7, 7, 7, 7, 7), 260);
        DUE.refuses(x, "260 take no more", NONE, () -> x.feed(9, 9, 9, 9, 9));
        DUE.refuses(x, "nor bytes 0", NONE, () -> x.feed(0, 0, 0, 0, 0));
        is("bytes of the tape", x.count(4), 260);
        is("the first ones are as they were fed", x.check(0, 4), NONE);
        is("empty", x.count(4), 0);
        is("then it takes twenty again", x.feed(2, 0, 0, 0, 0), 20);
        is("the new ones come first", x.check(0, 1), 0);
    }

    private static void tapeOrder() {
        DUE.part("promise 4, order");
        SecondTry x = Towns.full(0);
        for (int k = 0; k < 12; k++) {
            Towns.tries(x, 2, k, k + 1);
        }
        x.feed(1, 2, 3, 4, 5);
        x.feed(6, 7, 8, 9, 10);
        is("sixty", x.feed(11, 12, 0, 0, 0), 60);
        is("twenty bytes behind twenty bytes", x.check(2, 12), NONE);
        for (int shift = 0; shift < 32; shift += 8) {
            x.feed(1 << shift, 0, 0, 0, 0);
            is("the highest byte comes first", x.check(2, 1), shift == 0 ? NONE : 0);
        }
        x.feed(0x6128303d, 0x30290000, 0, 0, 0);
        is("a(0=0)", x.law(6), 1);
        x.feed(-1, -1, -1, -1, -1);
        is("bytes 255", x.jobs(1, 1, 10), -2);
        x.feed(MIN, 0, 0, 0, 0);
        is("a byte 128", x.jobs(1, 1, 10), -2);
        x.feed(0x00800000, 0, 0, 0, 0);
        is("a byte 128 behind", x.jobs(1, 1, 10), 2);
    }

    // ---- promise 7

    private static void triesRefused() {
        DUE.part("promise 7, refused");
        SecondTry x = Towns.town();
        x.kind(11, 1, 0, 0);
        x.person(7, 0);
        x.tries(0, 0, NONE);
        for (int p : new int[] {MIN, -32, -1, 3, 6, 8, 32, MAX}) {
            DUE.refuses(x, "tries(" + p + ", 0, -1)", NONE, () -> x.tries(p, 0, NONE));
        }
        for (int k : new int[] {MIN, -32, -1, 4, 10, 12, 32, MAX}) {
            DUE.refuses(x, "tries(0, " + k + ", -1)", NONE, () -> x.tries(0, k, NONE));
        }
        for (int with : new int[] {MIN, -32, -2, 0, 3, 6, 8, 9, 32, 33, MAX}) {
            DUE.refuses(x, "tries(0, 0, " + with + ")", NONE, () -> x.tries(0, 0, with));
        }
        DUE.refuses(x, "7 with itself", NONE, () -> x.tries(7, 11, 7));
        is("the last of both", x.tries(7, 11, NONE), 0);
        is("with the first", x.tries(7, 11, 0), 1);
        is("with the last", x.tries(0, 0, 7), 1);
    }

    /** Void, if OLD is below v: v is 0 to 99. */
    private static void triesAtTheirVoid() {
        DUE.part("promise 7, void");
        int[] voids = {0, 1, 2, 98, 99, 100, 500};
        for (int v : voids) {
            SecondTry x = Towns.withLaw(DUE, "v" + v + "(1=1)");
            int due = Math.min(99, v);
            is("all of these are void", Towns.tries(x, 0, 0, due), 0);
            is("as many tries", x.has(0, 0, 0), due);
            is("would count", x.has(0, 0, 5), 1);
            is("the next one counts", x.tries(0, 0, NONE), 1);
            is("one try more", x.has(0, 0, 0), due + 1);
            is("one counted", x.has(0, 0, 1), 1);
        }
        SecondTry x = Towns.withLaw(DUE, "v0-1(1=1)");
        is("below 0 it is 0", x.tries(0, 0, NONE), 1);
    }

    private static void triesFull() {
        DUE.part("TRIES and COUNTED at 999");
        SecondTry x = Towns.town();
        x.days(5);
        is("998 of 999 count", Towns.tries(x, 0, 0, 999), 998);
        is("TRIES", x.has(0, 0, 0), 999);
        is("COUNTED", x.has(0, 0, 1), 998);
        x.days(1);
        is("one more counts", x.tries(0, 0, NONE), 1);
        is("TRIES stay at 999", x.has(0, 0, 0), 999);
        is("COUNTED come to 999", x.has(0, 0, 1), 999);
        is("it is of THE DAY", x.has(0, 0, 2), 6);
        is("one more counts", x.tries(0, 0, NONE), 1);
        is("COUNTED stay at 999", x.has(0, 0, 1), 999);
        is("all TRIES", x.count(90), 999);
        is("all that COUNTED", x.count(100), 999);
        Towns.plan(x, 0, "(0)3");
        is("tried they count, too", x.tried(1, 1), 3);
        is("those of a day count, too", x.days(1), 3);
        is("would count", x.has(0, 0, 5), 1);
        Towns.tries(x, 1, 0, 999);
        is("o is 1998", Towns.law(x, "v7(o=1998&n=999);v5(1=1)"), 2);
        is("v by o and n", x.has(0, 0, 4), 7);
        Towns.law(x, "v7(w=999);v5(1=1)");
        is("v by w", x.has(0, 0, 4), 7);
        is("w of the other one is 998", x.has(1, 0, 4), 5);
        x.feed(999, 0, 0, 0, 0);
        is("check", x.check(0, 1), NONE);
        x.feed(1000, 0, 0, 0, 0);
        is("check of one more", x.check(0, 1), 0);
    }

    private static void triesForNeeds() {
        DUE.part("promise 7, needs");
        SecondTry x = new SecondTry();
        for (int k = 0; k < 11; k++) {
            x.kind(k, 1, 0, 0);
        }
        x.kind(11, 1, 0, 2047);
        x.person(0, 0);
        is("want of OLD ones goes first", x.tries(0, 11, NONE), 0);
        for (int k = 0; k < 11; k++) {
            is("one that it needs has not counted", x.tries(0, 11, NONE), -2);
            is("would not count", x.has(0, 11, 5), 0);
            is("a void try of it", x.tries(0, k, NONE), 0);
            is("a try is not enough", x.tries(0, 11, NONE), -2);
            is("one that counts", x.tries(0, k, NONE), 1);
        }
        is("none counted yet", x.has(0, 11, 1), 0);
        is("all have counted", x.tries(0, 11, NONE), 1);
        SecondTry y = Towns.town();
        y.kind(4, 1, 0, 8);
        Towns.tries(y, 0, 4, 1005);
        is("void ones fill TRIES", y.has(0, 4, 0), 999);
        is("and none counts", y.has(0, 4, 1), 0);
        is("-2 at 999", y.tries(0, 4, NONE), -2);
        Towns.tries(y, 1, 3, 2);
        is("for another one it counted, not for it", y.tries(0, 4, NONE), -2);
    }

    /** Forgotten if the last one is f days ago or more. */
    private static void forgottenAtItsDay() {
        DUE.part("promise 7, forgotten");
        for (int f : new int[] {1, 2, 60, 998, 999}) {
            SecondTry x = Towns.withLaw(DUE, "f" + f + "(1=1)");
            x.tries(0, 0, NONE);
            is("on the same day it counts", x.tries(0, 0, NONE), 1);
            Towns.goTo(x, f - 1);
            is("a day too few: OLD", x.has(0, 0, 3), 2);
            is("a day too few: TRIES", x.has(0, 0, 0), 2);
            x.days(1);
            is("so many days: OLD", x.has(0, 0, 3), 0);
            is("not by asking", x.has(0, 0, 0), 2);
            is("it is void again", x.tries(0, 0, NONE), 0);
            is("one try is there", x.has(0, 0, 0), 1);
            is("COUNTED stays", x.has(0, 0, 1), 1);
            is("of THE DAY", x.has(0, 0, 2), f);
        }
    }

    private static void forgottenAtBounds() {
        DUE.part("promise 7, f beyond its bounds");
        for (String f : new String[] {"1000", "99999", "32767*65536+65535"}) {
            SecondTry x = Towns.withLaw(DUE, "f" + f + "(1=1)");
            x.tries(0, 0, NONE);
            Towns.goTo(x, 998);
            is(f + " behind 998 days", x.has(0, 0, 3), 1);
            x.days(1);
            is(f + " behind 999 days", x.has(0, 0, 3), 0);
        }
        for (String f : new String[] {"0", "0-1", "[0-32768]*65536", "1/0"}) {
            SecondTry x = Towns.withLaw(DUE, "f" + f + "(1=1)");
            x.tries(0, 0, NONE);
            Towns.goTo(x, 2000);
            is(f + " is never", x.tries(0, 0, NONE), 1);
        }
        SecondTry x = Towns.withLaw(DUE, "f1(1=2)");
        x.tries(0, 0, NONE);
        x.days(60);
        is("none holds: never", x.tries(0, 0, NONE), 1);
        x = Towns.withLaw(DUE, "f1(1=1);a(k=0&j=1);v9(k=0)");
        x.tries(0, 1, NONE);
        x.tries(0, 2, NONE);
        x.days(1);
        is("a void try forgets, too", x.tries(0, 0, NONE), 0);
        is("what is alike it", x.has(0, 1, 0), 0);
        is("it has no last one then", x.has(0, 1, 2), -2);
        is("not what is not alike", x.has(0, 2, 0), 1);
        is("of another person nothing", x.has(1, 0, 0), 0);
    }

    // ---- promise 8

    private static void buysRefused() {
        DUE.part("promise 8, refused");
        SecondTry x = Towns.withLaw(DUE, "c5(1=1)");
        Towns.tries(x, 1, 0, 2);
        for (int p : new int[] {MIN, -1, 1, 3, 8, 32, MAX}) {
            DUE.refuses(x, "buys(" + p + ", 0, 1)", NONE, () -> x.buys(p, 0, 1));
        }
        for (int k : new int[] {MIN, -1, 4, 12, 32, MAX}) {
            DUE.refuses(x, "buys(0, " + k + ", 1)", NONE, () -> x.buys(0, k, 1));
        }
        for (int seller : new int[] {MIN, -2, -1, 0, 3, 8, 33, MAX}) {
            DUE.refuses(x, "buys(0, 0, " + seller + ")", NONE, () -> x.buys(0, 0, seller));
        }
        DUE.refuses(x, "the seller has none of that kind", -3, () -> x.buys(0, 1, 1));
        DUE.refuses(x, "the seller has none at all", -3, () -> x.buys(0, 0, 2));
        x.person(0, 4);
        DUE.refuses(x, "too few coins", -2, () -> x.buys(0, 0, 1));
        DUE.refuses(x, "too few coins, but none to buy goes first", -3, () -> x.buys(0, 0, 2));
        x.person(3, 0);
        x.person(4, 0);
        DUE.refuses(x, "neither has any", -3, () -> x.buys(3, 0, 4));
    }

    private static void buysAtCoins() {
        DUE.part("promise 8, coins");
        SecondTry x = Towns.withLaw(DUE, "c999(k=0);c1000(k=1);c0(k=2);c0-1(k=3)");
        for (int k = 0; k < 4; k++) {
            Towns.tries(x, 1, k, 3);
        }
        x.person(0, 998);
        is("one too few", x.buys(0, 0, 1), -2);
        is("999 at most, and one too few", x.buys(0, 1, 1), -2);
        x.person(0, 999);
        is("just enough", x.buys(0, 0, 1), 999);
        is("none are left", x.count(70), 0);
        is("the seller has them", x.count(71), 1099);
        is("nothing costs 0", x.buys(0, 2, 1), 0);
        is("nor less", x.buys(0, 3, 1), 0);
        is("COINS", x.count(70), 0);
        is("COINS of the seller", x.count(71), 1099);
        x.person(0, 99999);
        x.person(1, 99999 - 999);
        is("bought", x.buys(0, 1, 1), 999);
        is("99999 just fit", x.count(71), 99999);
        is("COINS", x.count(70), 99000);
        is("bought", x.buys(0, 0, 1), 999);
        is("99999 at most stay with the seller", x.count(71), 99999);
        is("the buyer pays all the same", x.count(70), 98001);
        is("bought", x.buys(0, 1, 1), 999);
        x.person(1, 99998);
        is("bought", x.buys(0, 1, 1), 999);
        is("one below, then the bound", x.count(71), 99999);
    }

    private static void buysAtTries() {
        DUE.part("promise 8, tries");
        SecondTry x = Towns.withLaw(DUE, "c3(1=1)");
        Towns.tries(x, 0, 0, 1200);
        x.tries(1, 0, NONE);
        x.days(9);
        is("the seller's only one", x.buys(0, 0, 1), 3);
        is("999 at most", x.has(0, 0, 0), 999);
        is("of THE DAY", x.has(0, 0, 2), 9);
        is("the seller has none left", x.has(1, 0, 0), 0);
        is("nor a last day", x.has(1, 0, 2), -2);
        is("COINS", x.count(70), 97);
        DUE.refuses(x, "nothing is left to buy", -3, () -> x.buys(0, 0, 1));
        is("of 999 one is sold", x.buys(1, 0, 0), 3);
        is("998 are left", x.has(0, 0, 0), 998);
        is("COUNTED of the seller stay", x.has(0, 0, 1), 999);
        is("the buyer has one", x.has(1, 0, 0), 1);
        is("that did not count", x.has(1, 0, 1), 0);
        is("it is an OLD one", x.tries(1, 0, NONE), 1);
    }

    // ---- promises 9 and 10

    private static void daysRefused() {
        DUE.part("promise 9, refused");
        SecondTry x = Towns.town();
        Towns.plan(x, 0, "0,0,0");
        for (int n : new int[] {MIN, -60, -1, 0, 61, 62, MAX}) {
            DUE.refuses(x, "days(" + n + ")", NONE, () -> x.days(n));
        }
        is("1", x.days(1), 2);
        is("THE DAY", x.count(0), 1);
        is("60", x.days(60), 0);
        is("THE DAY", x.count(0), 61);
        SecondTry y = new SecondTry();
        is("without people and kinds", y.days(60), 0);
        is("THE DAY", y.count(0), 60);
    }

    /** Each has 12 hours a day. */
    private static void hoursOfADay() {
        DUE.part("promise 9, hours");
        SecondTry x = new SecondTry();
        for (int k = 0; k < 12; k++) {
            x.kind(k, k + 1, 0, 0);
        }
        x.person(0, 0);
        x.person(7, 0);
        String[] plans = {"(0)9,(0)4", "11,0", "10,0,0", "10,1", "5,5,0", "5,6,0", "(2)5", "(3)4"};
        int[] left = {1, 1, 1, 1, 1, 2, 1, 1};
        int[] spent = {12, 12, 12, 11, 12, 6, 12, 12};
        for (int i = 0; i < plans.length; i++) {
            for (int p = 0; p < 8; p += 7) {
                Towns.plan(x, p, plans[i]);
            }
            is(plans[i] + " of both: HOURS", x.tried(1, 5), 2 * spent[i]);
            is(plans[i] + " of 0: left", x.tried(1, 10), left[i]);
            x.days(1);
            is(plans[i] + " of 7: left", x.count(87), left[i]);
            is(plans[i] + " of 0: left", x.count(80), left[i]);
        }
        Towns.plan(x, 0, "11,11,11");
        is("hours that are left are not kept", x.tried(2, 5), 24 + 4);
        is("three days", x.tried(3, 0), 4);
    }

    /** What is passed over takes no hours, also where none are left. */
    private static void stepsPassedOver() {
        DUE.part("promise 9, passed over");
        SecondTry x = new SecondTry();
        x.kind(0, 12, 0, 0);
        x.kind(1, 1, 0, 0);
        x.person(1, 0);
        x.person(2, 0);
        Towns.plan(x, 1, "0,5,0&1,0&3,11&7,5&1,1");
        is("STEPS left", x.tried(1, 11), 1);
        is("TRIES", x.tried(1, 0), 1);
        is("HOURS", x.tried(1, 5), 12);
        is("TRIES of two days", x.tried(2, 0), 2);
        is("HOURS of two days", x.tried(2, 5), 13);
        Towns.plan(x, 1, "5,5,11");
        is("all are passed over", x.tried(1, 11), 0);
        is("no TRIES", x.tried(1, 0), 0);
        Towns.plan(x, 1, "0,0&2,5");
        x.kind(5, 1, 0, 0);
        is("told by then, it is tried", x.tried(3, 0), 3);
        Towns.plan(x, 1, "0&3,0&2");
        is("with somebody who is told", x.tried(9, 0), 1);
        x.person(3, 0);
        is("told by then, both", x.tried(9, 0), 2);
        Towns.plan(x, 2, "1&1");
        is("for 2 it is with another one", x.tried(1, 5), 13);
        Towns.plan(x, 2, "1&2");
        is("not with itself", x.tried(1, 5), 12);
    }

    private static void stepsOfFortyOverDays() {
        DUE.part("a PLAN of 40 STEPS");
        SecondTry x = Towns.town();
        is("40 STEPS", Towns.plan(x, 2, "((0)5)8"), 40);
        is("STEPS left", x.count(82), 40);
        int[] left = {28, 16, 4, 0, 0};
        int[] counted = {11, 12, 12, 4, 0};
        for (int i = 0; i < left.length; i++) {
            is("tried: COUNTED", x.tried(1, 1), counted[i]);
            is("tried: STEPS left", x.tried(1, 12), left[i]);
            is("days", x.days(1), counted[i]);
            is("STEPS left", x.count(82), left[i]);
        }
        Towns.plan(x, 2, "((0)5)8");
        is("all at once", x.days(60), 40);
        Towns.plan(x, 2, "((0)5)8");
        x.days(1);
        is("in place of what is left", Towns.plan(x, 2, "1"), 1);
        is("STEPS left", x.count(82), 1);
        x.days(1);
        is("of the new one", x.has(2, 1, 0), 1);
        is("THE DAY of it", x.has(2, 1, 2), 66);
    }

    /** By numbers: who tries first makes the one try that is void for all. */
    private static void peopleByNumbers() {
        DUE.part("promise 9, people by numbers");
        SecondTry x = Towns.full(0);
        Towns.law(x, "v9(o<1);v0(1=1)");
        for (int p = 7; p >= 0; p--) {
            Towns.plan(x, p, p + ",7,(0)9");
        }
        is("eight firsts of 0 to 7", x.tried(1, 0), 88);
        is("one is void of each kind", x.tried(1, 1), 80);
        is("days", x.days(1), 80);
        for (int p = 0; p < 8; p++) {
            is("the KIND of its number is new, but for 7 and 0", x.has(p, p, 1), p == 0 ? 9 : p == 7 ? 2 : 0);
            is("7 is new to the first alone", x.has(p, 7, 1), p == 0 ? 0 : p == 7 ? 2 : 1);
        }
    }

    private static void lastDay() {
        DUE.part("THE DAY at 9999");
        SecondTry x = Towns.town();
        Towns.goTo(x, 9938);
        Towns.plan(x, 0, "((3)5)8");
        x.days(1);
        is("THE DAY", x.count(0), 9939);
        Towns.plan(x, 1, "(3,3,3)9");
        is("60 days just can", x.tried(60, 0), 37 + 27);
        Towns.goTo(x, 9990);
        Towns.plan(x, 0, "((3)5)8");
        is("nine days can", x.tried(60, 0), 27);
        is("nine days", x.tried(9, 0), 27);
        is("eight days", x.tried(8, 0), 24);
        is("STEPS left", x.tried(60, 10), 13);
        is("nine go by", x.days(10), 27);
        is("THE DAY", x.count(0), 9999);
        DUE.refuses(x, "none goes by", 0, () -> x.days(1));
        DUE.refuses(x, "nor of 60", 0, () -> x.days(60));
        is("STEPS left", x.count(80), 13);
        int[] due = {0, 0, -2, -2, -2, 0};
        for (int what = 0; what < due.length; what++) {
            is("tried(60, " + what + ")", x.tried(60, what), due[what]);
        }
        is("STEPS left", x.tried(60, 10), 13);
        is("tries go on", x.tries(2, 0, NONE), 0);
        is("of the last day", x.has(2, 0, 2), 9999);
        is("d is 9999", Towns.law(x, "v7(d=9999)"), 1);
        is("v by d", x.has(2, 0, 4), 7);
        is("keep", x.keep(), 9999);
    }

    private static void triedRefused() {
        DUE.part("promise 10, refused");
        SecondTry x = Towns.town();
        x.person(7, 0);
        Towns.plan(x, 7, "3,3,3,3");
        for (int n : new int[] {MIN, -1, 0, 61, MAX}) {
            DUE.refuses(x, "tried(" + n + ", 0)", NONE, () -> x.tried(n, 0));
            DUE.refuses(x, "tried(" + n + ", 10)", NONE, () -> x.tried(n, 10));
        }
        for (int what : new int[] {MIN, MIN + 9, MIN + 10, -22, -10, -1, 6, 7, 8, 9, 13, 16, 18, 19, 42, 49, MAX}) {
            DUE.refuses(x, "tried(1, " + what + ")", NONE, () -> x.tried(1, what));
        }
        for (int what : new int[] {0, 1, 2, 3, 4, 5, 10, 11, 12, 17}) {
            int due = new int[] {3, 2, -2, -2, -2, 12, 0, 0, 0, 0, 0, 0, 0, 0, 0, 0, 0, 1}[what];
            DUE.refuses(x, "tried(1, " + what + ") changes nothing", due, () -> x.tried(1, what));
        }
        is("60", x.tried(60, 0), 4);
    }

    /** The first void try that is not for want of old ones: by days, people, steps. */
    private static void triedStalls() {
        DUE.part("promise 10, stalls");
        SecondTry x = new SecondTry();
        x.kind(0, 1, 0, 0);
        x.kind(1, 1, 0, 1);
        x.kind(2, 12, 0, 0);
        x.kind(3, 1, 0, 2);
        x.person(3, 0);
        x.person(5, 0);
        stallsAt(x, "no plans", -2, -2, -2);
        Towns.plan(x, 5, "1");
        stallsAt(x, "for want of OLD ones as well", -2, -2, -2);
        Towns.plan(x, 5, "1,1,3,3");
        stallsAt(x, "the first of two", 0, 5, 1);
        Towns.plan(x, 3, "3,3");
        stallsAt(x, "the lower person first", 0, 3, 3);
        Towns.plan(x, 3, "2,3,3");
        stallsAt(x, "the earlier day first", 0, 5, 1);
        Towns.plan(x, 5, "0,0,1,1");
        stallsAt(x, "on a later day", 1, 3, 3);
        is("not within one day", x.tried(1, 2), -2);
        Towns.plan(x, 3, "0");
        stallsAt(x, "all have counted", -2, -2, -2);
        x.days(60);
        Towns.plan(x, 3, "1,1");
        stallsAt(x, "THE DAY, not how many days", 60, 3, 1);
    }

    private static void stallsAt(SecondTry x, String call, int day, int person, int kind) {
        is(call + ": DAY", x.tried(60, 2), day);
        is(call + ": PERSON", x.tried(60, 3), person);
        is(call + ": KIND", x.tried(60, 4), kind);
    }

    // ---- promises 11 to 13

    private static void hasRefused() {
        DUE.part("promise 11, refused");
        SecondTry x = Towns.town();
        for (int what : new int[] {0, 1, 2, 3, 4, 5}) {
            for (int p : new int[] {MIN, -1, 3, 7, 8, 32, MAX}) {
                is("has(" + p + ", 0, " + what + ")", x.has(p, 0, what), NONE);
            }
            for (int k : new int[] {MIN, -1, 4, 11, 12, 32, MAX}) {
                is("has(0, " + k + ", " + what + ")", x.has(0, k, what), NONE);
            }
        }
        for (int what : new int[] {MIN, -1, 6, 7, MAX}) {
            is("has(0, 0, " + what + ")", x.has(0, 0, what), NONE);
        }
        SecondTry y = Towns.full(0);
        is("the last of both", y.has(7, 11, 4), 1);
        is("the last of both", y.has(7, 11, 5), 0);
    }

    private static void hasAsks() {
        DUE.part("promise 11, as a try would find them");
        SecondTry x = Towns.withLaw(DUE, "f2(k=1);v2(n<1);v1(1=1);a(k=0&j=1)");
        is("on day 0 none", x.has(0, 1, 2), -2);
        Towns.tries(x, 0, 1, 2);
        is("of day 0", x.has(0, 1, 2), 0);
        is("OLD", x.has(0, 1, 3), 2);
        is("v", x.has(0, 1, 4), 1);
        is("it would COUNT", x.has(0, 1, 5), 1);
        x.days(2);
        for (int i = 0; i < 3; i++) {
            is("OLD behind what it forgets", x.has(0, 1, 3), 0);
            is("v behind what it forgets", x.has(0, 1, 4), 2);
            is("it would not COUNT", x.has(0, 1, 5), 0);
            is("OLD of one alike it", x.has(0, 0, 3), 0);
            is("nothing is forgotten by asking", x.has(0, 1, 0), 2);
            is("nor tried", x.has(0, 0, 0), 0);
            is("nor is the last one of today", x.has(0, 1, 2), 0);
        }
        SecondTry y = Towns.withLaw(DUE, "v3(q=8);v0(1=1)");
        is("with nobody", y.has(0, 0, 4), 3);
        is("with nobody it is void", y.has(0, 0, 5), 0);
        is("with somebody it is not", y.tries(0, 0, 1), 1);
        SecondTry z = Towns.town();
        z.tries(1, 0, NONE);
        z.buys(0, 0, 1);
        is("sold: no last TRY", z.has(1, 0, 2), -2);
        is("bought: of THE DAY", z.has(0, 0, 2), 0);
    }

    private static void alikeBounds() {
        DUE.part("promise 12");
        SecondTry x = Towns.withLaw(DUE, "a(1=1)");
        x.kind(11, 1, 0, 0);
        for (int k : new int[] {MIN, -1, 4, 10, 12, 32, 43, MAX}) {
            DUE.refuses(x, "alike(" + k + ", 0)", NONE, () -> x.alike(k, 0));
            DUE.refuses(x, "alike(0, " + k + ")", NONE, () -> x.alike(0, k));
            DUE.refuses(x, "alike(" + k + ", " + k + ")", NONE, () -> x.alike(k, k));
        }
        is("the last", x.alike(11, 0), 1);
        is("the last", x.alike(0, 11), 1);
        Towns.law(x, "a(1=2)");
        is("none hold", x.alike(11, 0), 0);
        is("itself anyhow", x.alike(11, 11), 1);
        Towns.law(x, "a(1=2);a(1/0=1);a(1=1)");
        is("any will do", x.alike(11, 0), 1);
    }

    private static void costBounds() {
        DUE.part("promise 13");
        SecondTry x = Towns.withLaw(DUE, "c999(k=0);c1000(k=1);c0-1(k=2);c1/0(k=3)");
        for (int p : new int[] {MIN, -1, 1, 3, 8, MAX}) {
            DUE.refuses(x, "cost(" + p + ", 0, 1)", NONE, () -> x.cost(p, 0, 1));
        }
        for (int k : new int[] {MIN, -1, 4, 12, MAX}) {
            DUE.refuses(x, "cost(0, " + k + ", 1)", NONE, () -> x.cost(0, k, 1));
        }
        for (int seller : new int[] {MIN, -1, 0, 3, 8, MAX}) {
            DUE.refuses(x, "cost(0, 0, " + seller + ")", NONE, () -> x.cost(0, 0, seller));
        }
        int[] due = {999, 999, 0, 0};
        for (int k = 0; k < 4; k++) {
            is("what would it cost, though the seller has none", x.cost(0, k, 1), due[k]);
        }
        x.person(0, 0);
        is("nor has who asks the COINS", x.cost(0, 0, 1), 999);
        is("no c holds", Towns.law(x, "c5(1=2)"), 1);
        is("it costs nothing", x.cost(0, 0, 1), 0);
    }

    // ---- promises 22 and 23

    private static void keptAndUndone() {
        DUE.part("promises 22, 23");
        SecondTry x = new SecondTry();
        DUE.refuses(x, "none was KEPT", 0, () -> x.undo() ? 1 : 0);
        is("an empty town is KEPT", x.keep(), 0);
        x.kind(0, 1, 0, 0);
        x.person(0, 5);
        x.tries(0, 0, NONE);
        x.days(2);
        is("UNDONE", x.undo(), true);
        is("no PEOPLE", x.count(2), 0);
        is("THE DAY", x.count(0), 0);
        is("KINDS stay", x.count(1), 1);
        is("nobody has any", x.has(0, 0, 0), NONE);
        x.person(0, 6);
        is("who is told anew has none", x.has(0, 0, 0), 0);
        is("and new COINS", x.count(70), 6);
        is("UNDONE again", x.undo(), true);
        is("no PEOPLE", x.count(2), 0);
        Towns.goTo(x, 9999);
        is("KEPT on the last day", x.keep(), 9999);
        is("UNDONE", x.undo(), true);
        is("THE DAY", x.count(0), 9999);
    }

    private static void keptWholly() {
        DUE.part("promises 22, 23, wholly");
        SecondTry x = Towns.full(50);
        x.kind(11, 1, 0, 0);
        Towns.law(x, "c3(1=1)");
        for (int p = 0; p < 8; p++) {
            Towns.plan(x, p, "((" + p + ",11)5)4");
            Towns.tries(x, p, 11 - p, 3 + p);
        }
        x.days(2);
        String kept = Towns.look(x);
        String triedThen = triedOf(x);
        is("KEPT", x.keep(), 2);
        for (int p = 0; p < 8; p++) {
            x.buys(p, 11, (p + 1) % 8);
            x.tries(p, 5, NONE);
            Towns.plan(x, p, p % 2 == 0 ? "1" : "(2,3)9");
            x.person(p, p);
        }
        x.days(3);
        x.feed(1, 2, 3, 4, 5);
        is("it looks otherwise", Towns.look(x).equals(kept), false);
        is("UNDONE", x.undo(), true);
        is("it looks as KEPT", Towns.look(x).equals(kept), true);
        is("PLANS and how far", triedOf(x).equals(triedThen), true);
        is("the tape stays", x.count(4), 20);
        is("as it was fed", x.check(0, 1), 0);
        x.days(1);
        is("UNDONE again", x.undo(), true);
        is("it looks as KEPT", Towns.look(x).equals(kept), true);
        x.days(1);
        x.keep();
        x.days(1);
        x.undo();
        is("as KEPT last", x.count(0), 3);
        is("THE LAW stays", Towns.law(x, "c4(1=1);a(1=1)"), 2);
        x.undo();
        is("THE LAW stays as it is now", x.count(3), 2);
    }

    /** What is asked, and what is refused, leaves what is KEPT. */
    private static void keptThroughAll() {
        DUE.part("promises 22, 23, what is KEPT stays");
        SecondTry x = Towns.withLaw(DUE, "c3(1=1)");
        Towns.plan(x, 0, "(0,1)9");
        x.tries(1, 2, NONE);
        x.days(1);
        String kept = Towns.look(x);
        String triedThen = triedOf(x);
        is("KEPT", x.keep(), 1);
        x.days(2);
        x.tries(1, 2, NONE);
        for (int what = 0; what <= 1; what++) {
            x.soonest(1, 7, 2, 3, what);
            x.cheapest(0, 7, 2, 100, what);
        }
        is("jobs", Towns.jobs(x, 7, 10, 0, 1, 2, 3), 8);
        is("histories", Towns.histories(x, new int[] {0, 1}, 1, 0, 0, 1), 12);
        is("refused", x.tries(9, 0, NONE), NONE);
        is("refused", x.buys(0, 3, 1), -3);
        is("refused", x.days(61), NONE);
        is("refused", x.person(0, -1), false);
        is("a FAULT", Towns.plan(x, 0, "12"), -3000);
        is("UNDONE", x.undo(), true);
        is("it looks as KEPT", Towns.look(x).equals(kept), true);
        is("PLANS and how far", triedOf(x).equals(triedThen), true);
    }

    private static String triedOf(SecondTry x) {
        StringBuilder seen = new StringBuilder();
        for (int n = 1; n <= 4; n++) {
            for (int what = 0; what <= 17; what++) {
                seen.append(x.tried(n, what)).append(' ');
            }
        }
        return seen.toString();
    }

    // ---- promise 24

    private static void checkRefused() {
        DUE.part("promise 24, refused");
        SecondTry x = Towns.town();
        is("no numbers of an empty tape", x.check(0, 0), NONE);
        DUE.refuses(x, "one of an empty tape", -2, () -> x.check(0, 1));
        x.feed(0, 0, 0, 0, 0);
        for (int p : new int[] {MIN, -1, 3, 8, 32, MAX}) {
            DUE.refuses(x, "check(" + p + ", 0)", -2, () -> x.check(p, 0));
        }
        for (int n : new int[] {MIN, MIN / 4, MIN / 2, -1, 6, 12, 13, 1 << 30, MAX}) {
            DUE.refuses(x, "check(0, " + n + ")", -2, () -> x.check(0, n));
        }
        DUE.empties(x, "five of twenty bytes", NONE, () -> x.check(0, 5));
        x.feed(0, 0, 0, 0, 0);
        DUE.empties(x, "none of twenty bytes", NONE, () -> x.check(0, 0));
        x.feed(0, 0, 0, 0, 0);
        x.feed(0, 0, 0, 0, 0);
        DUE.refuses(x, "eleven of forty bytes", -2, () -> x.check(0, 11));
        DUE.empties(x, "ten of forty bytes", NONE, () -> x.check(0, 10));
        for (int i = 0; i < 13; i++) {
            x.feed(0, 0, 0, 0, 0);
        }
        DUE.refuses(x, "13 of 260 bytes", -2, () -> x.check(0, 13));
        DUE.empties(x, "twelve of 260 bytes", NONE, () -> x.check(0, 12));
    }

    /** The place of the first number that is not so, from 0 to 11. */
    private static void checkPlaces() {
        DUE.part("promise 24, places");
        SecondTry x = Towns.full(0);
        for (int k = 0; k < 12; k++) {
            Towns.tries(x, 7, k, k);
        }
        for (int n = 0; n <= 12; n++) {
            for (int wrong = 0; wrong <= 12; wrong++) {
                for (int by : new int[] {1, -1, 256, MIN}) {
                    int[] row = new int[15];
                    for (int k = 0; k < 12; k++) {
                        row[k] = k + (k == wrong ? by : 0);
                    }
                    row[11] += wrong < 11 ? 1 : 0;
                    for (int at = 0; at < 15; at += 5) {
                        x.feed(row[at], row[at + 1], row[at + 2], row[at + 3], row[at + 4]);
                    }
                    int due = wrong < n ? wrong : NONE;
                    DUE.is("place " + wrong + " of " + n, x.check(7, n), due);
                }
            }
        }
    }

    // ---- promise 25

    private static void countOfNone() {
        DUE.part("promise 25, NONE");
        SecondTry x = Towns.full(3);
        int[][] gone = {{-40, -1}, {5, 9}, {22, 29}, {42, 49}, {62, 69}, {78, 79}, {88, 89}, {98, 99}, {108, 400},
            {MIN, MIN + 200}, {MAX - 200, MAX - 1}};
        for (int[] row : gone) {
            for (int what = row[0]; what <= row[1]; what++) {
                is("count(" + what + ")", x.count(what), NONE);
            }
        }
        is("count(MAX)", x.count(MAX), NONE);
        SecondTry y = new SecondTry();
        y.kind(4, 2, 3, 0);
        y.person(5, 6);
        for (int k = 0; k < 12; k++) {
            is("HOURS", y.count(10 + k), k == 4 ? 2 : NONE);
            is("MARKS", y.count(30 + k), k == 4 ? 3 : NONE);
            is("NEEDS", y.count(50 + k), k == 4 ? 0 : NONE);
        }
        for (int p = 0; p < 8; p++) {
            is("COINS", y.count(70 + p), p == 5 ? 6 : NONE);
            is("STEPS left", y.count(80 + p), p == 5 ? 0 : NONE);
            is("all TRIES", y.count(90 + p), p == 5 ? 0 : NONE);
            is("all that COUNTED", y.count(100 + p), p == 5 ? 0 : NONE);
        }
    }

    private static void countOfAll() {
        DUE.part("promise 25, full");
        SecondTry x = Towns.full(0);
        for (int p = 0; p < 8; p++) {
            x.person(p, 99999 - p);
            Towns.plan(x, p, p == 0 ? "((0)5)8" : "(0)" + (p + 2));
            for (int k = 0; k < 12; k++) {
                Towns.tries(x, p, k, p == 7 ? 1001 : p + 2);
            }
        }
        is("KINDS", x.count(1), 4095);
        is("PEOPLE", x.count(2), 255);
        for (int p = 0; p < 8; p++) {
            is("COINS", x.count(70 + p), 99999 - p);
            is("STEPS left", x.count(80 + p), p == 0 ? 40 : p + 2);
            is("all TRIES", x.count(90 + p), p == 7 ? 12 * 999 : 12 * (p + 2));
            is("all that COUNTED", x.count(100 + p), p == 7 ? 12 * 999 : 12 * (p + 1));
        }
    }
}
