/**
 * That each call looks at the person, kind, seller and day that it is asked about, the last ones too: what a law's
 * letters are wherever it is asked (promises 7 to 17, 19), and bounds that stand far from the first place.
 */
public final class EachOneTest {
    private static final Due DUE = new Due();
    private static final int NONE = SecondTry.NONE;
    private static final int FAR = 1 << 11;
    /** What the letters are for person 7 who tries kind 11 with nobody in the town of letters. */
    private static final String LETTERS = "khxjymdpqnow";
    private static final int[] OF_A_TRY = {11, 7, 200, 0, 0, 0, 9, 7, 8, 4, 8, 3};
    private static final int[] OF_ALIKE = {11, 7, 200, 4, 12, 1, 9, 0, 0, 0, 0, 0};

    public static void main(String[] args) {
        lettersOfHas();
        lettersOfTries();
        lettersOfDays();
        lettersOfForgetting();
        lettersOfCosts();
        lettersOfSoonest();
        lettersOfCheapest();
        lettersOfJobs();
        lettersOfAlike();
        alikeInTries();
        alikeInHistories();
        alikeInLoopholes();
        forgottenByEach();
        sellersOfEach();
        openBehindSigns();
        roundsWithPeople();
        checkOfEachByte();
        waysWithNeeds();
        waysWithGoesBetween();
        waysMetTwice();
        cheapestByAHair();
        historiesFar();
        DUE.end("EachOneTest");
    }

    private static void is(String call, long got, long want) {
        DUE.is(call, got, want);
    }

    // ---- letters

    /** Kinds 1, 4, 11 and people 2, 5, 7 alone are told; all tries are of day 0, THE DAY is 9. */
    private static SecondTry letterTown() {
        SecondTry x = new SecondTry();
        x.kind(1, 3, 6, 0);
        x.kind(4, 5, 12, 0);
        x.kind(11, 7, 200, 0);
        for (int p : new int[] {2, 5, 7}) {
            x.person(p, 500);
        }
        Towns.tries(x, 7, 11, 4);
        Towns.tries(x, 5, 11, 3);
        Towns.tries(x, 2, 11, 1);
        Towns.tries(x, 7, 4, 2);
        Towns.tries(x, 7, 1, 1);
        Towns.tries(x, 2, 4, 5);
        x.days(9);
        return x;
    }

    private static SecondTry letterTown(String law) {
        SecondTry x = letterTown();
        DUE.is(law, Towns.law(x, law) > 0, true);
        return x;
    }

    /** One call in a town whose law asks for a letter. */
    private interface Asked {
        int in(SecondTry x);
    }

    /** The law holds where the letter is just so much, and not where it is one more or less; then the call answers so. */
    private static void letters(String law, int[] values, Asked asked, int holding, int otherwise) {
        for (int i = 0; i < values.length; i++) {
            for (int by = -1; by <= 1; by++) {
                letterBy(law, i, values[i] + by, asked, by == 0 ? holding : otherwise);
            }
        }
    }

    /** The same, where tries may follow by which n and o come to one more. */
    private static void growingLetters(String law, int[] values, Asked asked, int holding, int otherwise) {
        for (int i = 0; i < values.length; i++) {
            boolean grows = "no".indexOf(LETTERS.charAt(i)) >= 0;
            for (int by = -1; by <= (grows ? 0 : 1); by++) {
                letterBy(law, i, values[i] + by, asked, by == 0 ? holding : otherwise);
            }
        }
    }

    private static void letterBy(String law, int letter, int value, Asked asked, int due) {
        String text = law.replace("?", LETTERS.charAt(letter) + "+1=" + (value + 1));
        is(text, asked.in(letterTown(text)), due);
    }

    private static int[] with(int[] values, char letter, int value) {
        int[] row = values.clone();
        row[LETTERS.indexOf(letter)] = value;
        return row;
    }

    private static void lettersOfHas() {
        DUE.part("promise 11, letters");
        letters("v7(?);v3(1=1)", OF_A_TRY, x -> x.has(7, 11, 4), 7, 3);
        letters("v4(?);v5(1=1)", OF_A_TRY, x -> x.has(7, 11, 5), 1, 0);
        letters("v[99](?);v0(1=1)", OF_A_TRY, x -> x.has(7, 11, 5), 0, 1);
    }

    private static void lettersOfTries() {
        DUE.part("promise 7, letters");
        letters("v4(?);v5(1=1)", OF_A_TRY, x -> x.tries(7, 11, NONE), 1, 0);
        letters("v4(?);v5(1=1)", with(OF_A_TRY, 'q', 5), x -> x.tries(7, 11, 5), 1, 0);
        letters("v4(?);v5(1=1)", with(OF_A_TRY, 'q', 2), x -> x.tries(7, 11, 2), 1, 0);
        int[] then = {11, 7, 200, 0, 0, 0, 9, 7, 8, 5, 9, 3};
        letters("v99(n<5);v4(?);v99(1=1)", then, x -> x.tries(7, 11, NONE) + x.tries(7, 11, NONE), 1, 0);
    }

    private static void lettersOfDays() {
        DUE.part("promises 9, 10, letters");
        letters("v4(?);v5(1=1)", with(OF_A_TRY, 'q', 5), x -> planned(x, "11&5").tried(1, 1), 1, 0);
        letters("v4(?);v5(1=1)", OF_A_TRY, x -> planned(x, "11").days(1), 1, 0);
        int[] later = with(OF_A_TRY, 'd', 10);
        letters("v4(?);v5(1=1)", later, x -> planned(x, "4,4,11").days(2), 1, 0);
    }

    private static SecondTry planned(SecondTry x, String plan) {
        DUE.is(plan, Towns.plan(x, 7, plan) > 0, true);
        return x;
    }

    private static void lettersOfForgetting() {
        DUE.part("promise 7, letters of f");
        letters("f9(?);f10(1=1)", OF_A_TRY, x -> x.has(7, 11, 3), 0, 4);
        letters("f9(?);f10(1=1);v1(1=1)", OF_A_TRY, x -> x.tries(7, 11, 5), 0, 1);
        letters("f10-[1](?);f0(1=1)", OF_A_TRY, x -> {
            x.tries(7, 11, 2);
            return x.has(7, 11, 0);
        }, 1, 5);
        int[] ofFour = {4, 5, 12, 0, 0, 0, 9, 7, 8, 2, 7, 1};
        letters("a(k=11);f9(k=4&?);f0(1=1)", ofFour, x -> x.has(7, 11, 3), 5, 7);
    }

    private static void lettersOfCosts() {
        DUE.part("promises 8, 13, letters of c");
        int[] ofFive = with(OF_A_TRY, 'q', 5);
        letters("c6(?);c9(1=1)", ofFive, x -> x.cost(7, 11, 5), 6, 9);
        letters("c6(?);c9(1=1)", ofFive, x -> x.buys(7, 11, 5), 6, 9);
        letters("c500(?);c501(1=1)", ofFive, x -> x.buys(7, 11, 5), 500, -2);
        letters("c600(?)", ofFive, x -> x.buys(7, 11, 5), -2, 0);
        int[] ofSeven = {11, 7, 200, 0, 0, 0, 9, 5, 7, 3, 8, 2};
        letters("c6(?);c9(1=1)", ofSeven, x -> x.cost(5, 11, 7), 6, 9);
        letters("c6(?);c9(1=1)", ofSeven, x -> x.buys(5, 11, 7), 6, 9);
    }

    private static void lettersOfSoonest() {
        DUE.part("promise 14, letters");
        growingLetters("v4(?);v99(1=1)", OF_A_TRY, x -> x.soonest(7, FAR, 11, 0, 0), 7, -2);
        growingLetters("v4(?);v99(1=1)", OF_A_TRY, x -> x.soonest(7, FAR | 18, 11, 0, 1), 1, -2);
        int[] second = {11, 7, 200, 0, 0, 0, 9, 7, 8, 5, 9, 3};
        growingLetters("v99(n<5);v5(?);v99(1=1)", second, x -> x.soonest(7, FAR, 11, 0, 0), 14, -2);
        growingLetters("v99(n<5);v5(?);v99(1=1)", second, x -> x.soonest(7, FAR | 2, 11, 1, 0), 7, -2);
        int[] ofFour = {4, 5, 12, 0, 0, 0, 9, 7, 8, 2, 7, 1};
        growingLetters("v2(k=4&?);v99(1=1)", ofFour, x -> x.soonest(7, FAR | 18, 4, 0, 0), 5, -2);
    }

    private static void lettersOfCheapest() {
        DUE.part("promise 15, letters");
        int[] dearer = with(with(OF_A_TRY, 'q', 5), 'k', 11);
        growingLetters("v5(1=1);c6(?);c9(1=1)", dearer, x -> x.cheapest(7, FAR, 11, 7, 0), 6, 9);
        int[] ofTwo = with(OF_A_TRY, 'q', 2);
        growingLetters("v5(1=1);c9(q<2|q>2);c6(?);c9(1=1)", ofTwo, x -> x.cheapest(7, FAR, 11, 7, 0), 6, 9);
        int[] second = {11, 7, 200, 0, 0, 0, 9, 7, 8, 5, 9, 3};
        growingLetters("v99(n<5);v5(?);v99(1=1);c6(1=1)", second, x -> x.cheapest(7, FAR, 11, 7, 0), 6, -2);
        int[] ofFive = {11, 7, 200, 0, 0, 0, 9, 5, 7, 3, 8, 2};
        growingLetters("v4(1=1);c99(q<7);c6(?);c99(1=1)", ofFive, x -> x.cheapest(5, FAR, 11, 7, 0), 6, 99);
    }

    private static void lettersOfJobs() {
        DUE.part("promise 17, letters");
        growingLetters("v4(?);v99(1=1)", OF_A_TRY, x -> Towns.jobs(x, 128, 10, 11), 7, -3);
        growingLetters("v4(?);v99(1=1)", OF_A_TRY, x -> Towns.jobs(x, 128, 0, 11), 7, -3);
        int[] second = {11, 7, 200, 0, 0, 0, 9, 7, 8, 5, 9, 3};
        growingLetters("v99(n<5);v5(?);v99(1=1)", second, x -> Towns.jobs(x, 128, 10, 11), 14, -3);
        int[] again = {11, 7, 200, 0, 0, 0, 9, 7, 8, 5, 9, 4};
        growingLetters("v0(w<4);v5(?);v99(1=1)", again, x -> Towns.jobs(x, 128, 10, 11, 11), 14, -3);
    }

    // ---- what is alike

    private static void lettersOfAlike() {
        DUE.part("promise 12, letters");
        letters("a(j=4&?)", OF_ALIKE, x -> x.alike(11, 4), 1, 0);
        int[] back = {4, 5, 12, 11, 200, 1, 9, 0, 0, 0, 0, 0};
        letters("a(j=11&?)", back, x -> x.alike(4, 11), 1, 0);
        letters("a(?)", OF_ALIKE, x -> x.alike(11, 11), 1, 1);
    }

    private static void alikeInTries() {
        DUE.part("what is alike, in tries");
        letters("a(j=4&?)", OF_ALIKE, x -> x.has(7, 11, 3), 6, 4);
        letters("a(j=4&?);v6(1=1)", OF_ALIKE, x -> x.tries(7, 11, NONE), 1, 0);
        letters("a(j=4&?);v6(1=1)", OF_ALIKE, x -> planned(x, "11").days(1), 1, 0);
        letters("a(j=4&?);f9(k=4)", OF_ALIKE, x -> {
            x.tries(7, 11, NONE);
            return x.has(7, 4, 0);
        }, 0, 2);
        letters("a(j=4&?);v6(1=1)", OF_ALIKE, x -> x.soonest(7, FAR, 11, 0, 0), 7, 21);
        letters("a(j=4&?);v8(1=1)", OF_ALIKE, x -> x.soonest(7, FAR | 16, 11, 0, 0), 17, -2);
        letters("a(j=4&?);v6(1=1)", OF_ALIKE, x -> x.cheapest(7, FAR, 11, 7, 1), 7, 7);
        letters("a(j=4&?);v6(1=1);c3(1=1)", OF_ALIKE, x -> x.cheapest(7, FAR, 11, 7, 0), 0, 6);
        letters("a(j=4&?);v6(1=1)", OF_ALIKE, x -> Towns.jobs(x, 128, 10, 11), 7, 21);
    }

    /** Of a stranger 11 is the second place, 4 the first; four fit where 4 is OLD for it, else none. */
    private static void alikeInHistories() {
        DUE.part("promise 19, letters");
        letters("a(j=4&?)", OF_ALIKE, x -> Towns.histories(x, new int[] {4, 11}, 6, 0, 1, 1), 1, 0);
        letters("a(j=4&?)", OF_ALIKE, x -> Towns.histories(x, new int[] {4, 11}, 6, 1, 1, 1), 15, -2);
    }

    private static void alikeInLoopholes() {
        DUE.part("promise 16, letters");
        int[] ofDeed = {12, 1, 8, 4, 12, 1, 9, 0, 0, 0, 0, 0};
        letters("a(j=4&x=8&?)", ofDeed, x -> x.loophole(16, FAR | 2, 1), 1, 0);
        letters("a(j=4&x=8&?)", ofDeed, x -> x.loophole(16, FAR | 2, 0), 8, -2);
        letters("a(j=4&x=8&?)", ofDeed, x -> x.loophole(0, 16, 1), 255, 256);
    }

    // ---- persons, kinds, sellers

    private static void forgottenByEach() {
        DUE.part("promise 7, forgotten by each");
        for (int p = 0; p < 8; p++) {
            for (int k = 0; k < 12; k++) {
                SecondTry x = Towns.full(0);
                int other = (p + 3) % 8;
                int next = (k + 1) % 12;
                x.tries(p, k, NONE);
                x.tries(other, k, NONE);
                x.days(1);
                x.tries(p, next, NONE);
                x.days(1);
                Towns.law(x, "f2(1=1);a(1=1)");
                is("the older is forgotten, the later is not", x.has(p, k, 3), 1);
                is("the later one counts for it", x.tries(p, k, NONE), 1);
                is("it has one anew", x.has(p, k, 0), 1);
                is("of THE DAY", x.has(p, k, 2), 2);
                is("the later one is there", x.has(p, next, 0), 1);
                is("of another person nothing is forgotten yet", x.has(other, k, 0), 1);
                is("that forgets it, too", x.tries(other, next, NONE), 0);
                is("then it has none", x.has(other, k, 0), 0);
            }
        }
    }

    private static void sellersOfEach() {
        DUE.part("promises 8, 15, each seller");
        for (int seller = 0; seller < 8; seller++) {
            for (int p = 0; p < 8; p++) {
                if (p != seller) {
                    SecondTry x = Towns.full(100);
                    Towns.law(x, "c10*q+p+1(1=1)");
                    Towns.tries(x, seller, 11, 1);
                    int price = 10 * seller + p + 1;
                    is("the one who has one", x.cheapest(p, FAR, 11, 1, 0), price);
                    is("with others to choose", x.cheapest(p, 15 << 8, 11, 1, 0), price);
                    is("it costs", x.cost(p, 11, seller), price);
                    is("bought", x.buys(p, 11, seller), price);
                    is("COINS", x.count(70 + p), 100 - price);
                    is("COINS of the seller", x.count(70 + seller), 100 + price);
                    is("now another one sells", x.cheapest(seller, FAR, 11, 1, 0), 10 * p + seller + 1);
                }
            }
        }
    }

    // ---- texts

    /** What is open counts behind each sign of a sum, and what was closed does not. */
    private static void openBehindSigns() {
        DUE.part("promise 5, open behind signs");
        for (char sign : "+-*/%".toCharArray()) {
            String more = "[1" + sign;
            String six = more.repeat(6);
            String closed = "1" + "]".repeat(6);
            is("six behind " + sign, Towns.law(new SecondTry(), "v" + six + closed + "(1=1)"), 1);
            is("a seventh behind " + sign, Towns.law(new SecondTry(), "v" + six + "[1"), -5019);
            is("six behind a number", Towns.law(new SecondTry(), "v1" + sign + six + closed + "(1=1)"), 1);
            is("a seventh behind a number", Towns.law(new SecondTry(), "v1" + sign + six + "[1"), -5021);
            String five = more.repeat(5) + "1" + "]".repeat(5);
            is("five in a C", Towns.law(new SecondTry(), "a(1" + sign + five + "=1" + sign + five + ")"), 1);
            is("a sixth in a C", Towns.law(new SecondTry(), "a(1" + sign + more.repeat(5) + "[1"), -5019);
            is("a sixth at the right", Towns.law(new SecondTry(), "a(1=1" + sign + more.repeat(5) + "[1"), -5021);
        }
    }

    /** Each step of a round keeps with whom it is, each time. */
    private static void roundsWithPeople() {
        DUE.part("promise 6, rounds with people");
        SecondTry x = Towns.withLaw(DUE, "v0(k=0&q=8|k=1&q=2|k=0&q=1);v99(1=1)");
        is("STEPS", Towns.plan(x, 0, "(0,1&2,0&1)3"), 9);
        is("each COUNTS", x.tried(60, 1), 9);
        is("STEPS", Towns.plan(x, 0, "(1&2,0)3"), 6);
        is("each COUNTS", x.tried(60, 1), 6);
        is("STEPS", Towns.plan(x, 0, "(1,0&2,(0&1,1&2)2)2"), 12);
        is("the inner ones alone", x.tried(60, 1), 8);
        is("STEPS", Towns.plan(x, 0, "0&2,(1&2)2"), 3);
        is("those of the round alone", x.tried(60, 1), 2);
    }

    private static void checkOfEachByte() {
        DUE.part("promise 24, each byte");
        SecondTry x = Towns.town();
        Towns.tries(x, 0, 3, 300);
        for (int place = 0; place < 5; place++) {
            for (int bit = 0; bit < 32; bit++) {
                int[] row = {0, 0, 0, 300, 0};
                row[place] ^= 1 << bit;
                x.feed(row[0], row[1], row[2], row[3], row[4]);
                is("bit " + bit + " of number " + place, x.check(0, 5), place);
            }
        }
        x.feed(0, 0, 0, 300, 0);
        is("right", x.check(0, 5), NONE);
    }

    // ---- soonest and cheapest

    private static void waysWithNeeds() {
        DUE.part("promises 14, 15, needs beside one another");
        SecondTry x = new SecondTry();
        for (int k = 0; k < 4; k++) {
            x.kind(k, 1 << k, 0, k == 3 ? 7 : 0);
        }
        x.kind(4, 12, 0, 1);
        x.person(7, 0);
        is("all three must COUNT", x.soonest(7, 15, 3, 0, 0), 2 * 15);
        is("TRIES", x.soonest(7, 15, 3, 0, 1), 8);
        is("within so many HOURS", x.cheapest(7, 15, 3, 30, 1), 30);
        is("an hour too few", x.cheapest(7, 15, 3, 29, 1), -2);
        for (int missing = 0; missing < 3; missing++) {
            is("without one of them", x.soonest(7, 15 & ~(1 << missing), 3, 3, 0), -2);
        }
        is("one that can't COUNT, ahead of one that can", x.soonest(7, 12 | 16, 2, 0, 0), 8);
        is("one that can't COUNT, behind one that can", x.soonest(7, 1 | 8, 0, 0, 0), 2);
        is("it can't either", x.soonest(7, 12 | 16, 4, 0, 0), -2);
        Towns.law(x, "a(k=2&j=3);v2(k=2)");
        is("the first can't COUNT, but its TRIES are OLD", x.soonest(7, 12, 2, 2, 0), 4);
        SecondTry y = new SecondTry();
        y.kind(0, 1, 0, 0);
        y.kind(1, 2, 0, 1);
        y.kind(2, 3, 0, 0);
        y.person(3, 0);
        is("the lowest can't COUNT, the next one can", y.soonest(3, 6, 2, 0, 0), 6);
        Towns.tries(y, 3, 0, 2);
        is("now it can", y.soonest(3, 6, 1, 0, 0), 4);
    }

    /** A first go may come behind a try: ahead of it, it would spoil the try. */
    private static void waysWithGoesBetween() {
        DUE.part("promise 14, first goes between tries");
        SecondTry x = new SecondTry();
        x.kind(0, 1, 0, 0);
        x.kind(1, 2, 0, 1);
        x.person(6, 0);
        Towns.law(x, "v0(k=0&n=0);v9(k=0);v3(k=1&n=0);v9(1=1);a(k=1&j=0)");
        int[] hours = {5, 4, 3, 3};
        int[] tries = {4, 3, 2, 2};
        for (int goes = 0; goes <= 3; goes++) {
            is("HOURS by " + goes, x.soonest(6, 3, 1, goes, 0), hours[goes]);
            is("TRIES by " + goes, x.soonest(6, 3, 1, goes, 1), tries[goes]);
        }
        x.person(5, 0);
        x.tries(5, 0, NONE);
        is("in cheapest they come ahead", x.cheapest(6, 3, 1, 4, 0), -2);
        is("in cheapest they come ahead", x.cheapest(6, 3, 1, 5, 1), 5);
    }

    /** A try of a dear one and a first go of a cheap one come to the same as the other way round, but dearer. */
    private static void waysMetTwice() {
        DUE.part("promise 14, ways that meet");
        int[][] orders = {{9, 2, 1}, {2, 9, 1}, {1, 2, 9}, {9, 1, 2}};
        for (int[] row : orders) {
            SecondTry x = new SecondTry();
            for (int k = 0; k < 3; k++) {
                x.kind(k, row[k], 0, 0);
            }
            x.kind(3, 1, 0, 0);
            x.person(4, 0);
            Towns.law(x, "a(k=3);v9(k=3);v99(1=1)");
            int all = 3 * 12 + 1;
            is("nine OLD ones of three kinds", x.soonest(4, 15, 3, 0, 1), 10);
            is("two of its own save the two dearest", x.soonest(4, 15, 3, 0, 0), all - 2 * 9 + 2);
            is("TRIES", x.soonest(4, 15, 3, 1, 1), 9);
            is("one first go for the dearest", x.soonest(4, 15, 3, 1, 0), all - 3 * 9 + 2);
            is("TRIES", x.soonest(4, 15, 3, 3, 1), 7);
            is("three first goes", x.soonest(4, 15, 3, 3, 0), all - 3 * 9 - 2 * 2 + 2);
        }
    }

    private static void cheapestByAHair() {
        DUE.part("promise 15, by one");
        SecondTry x = new SecondTry();
        x.kind(0, 5, 0, 0);
        x.kind(1, 4, 0, 0);
        x.kind(2, 3, 0, 0);
        x.person(1, 0);
        x.person(7, 0);
        for (int k = 0; k < 3; k++) {
            x.tries(1, k, NONE);
        }
        Towns.law(x, "a(1=1);c8(k=0);c9(1=1)");
        is("the lowest is cheaper by one", x.cheapest(7, 7, 2, 3, 0), 8);
        Towns.law(x, "a(1=1);c8(k=1);c9(1=1)");
        is("the next one is", x.cheapest(7, 7, 2, 3, 0), 8);
        Towns.law(x, "a(1=1);c8(k=2);c9(1=1)");
        is("its own is", x.cheapest(7, 7, 2, 3, 0), 8);
        Towns.law(x, "a(1=1);c9(k=2);c8(k=1);c7(k=0)");
        is("each is cheaper than the next", x.cheapest(7, 7, 2, 3, 0), 7);
        Towns.law(x, "a(1=1);c9(1=1);v0(n=1&k=0);v2(1=1)");
        is("none bought: HOURS", x.cheapest(7, 3, 0, 10, 1), 10);
        is("all cost the same: COINS", x.cheapest(7, 3, 0, 9, 0), 9);
        is("of 0 it counts at once: HOURS", x.cheapest(7, 3, 0, 9, 1), 5);
        Towns.law(x, "c9(1=1);v0(n=1&k=1);v2(1=1);a(k=1)");
        is("none bought: HOURS", x.cheapest(7, 6, 1, 8, 1), 8);
        is("of like COINS the fewest HOURS", x.cheapest(7, 6, 1, 7, 1), 4);
        is("their COINS", x.cheapest(7, 6, 1, 7, 0), 9);
        hoursByOne();
    }

    /** A first go of the one kind saves a try of the other: of like coins the way that takes an hour less. */
    private static void hoursByOne() {
        for (int dear = 0; dear < 2; dear++) {
            SecondTry x = new SecondTry();
            x.kind(0, dear == 0 ? 6 : 5, 0, 0);
            x.kind(1, dear == 0 ? 5 : 6, 0, 0);
            x.kind(2, 1, 0, 3);
            x.person(0, 0);
            x.person(1, 0);
            x.tries(1, 0, NONE);
            x.tries(1, 1, NONE);
            Towns.law(x, "v0(k=2);v1(1=1);c9(1=1)");
            is("none bought", x.cheapest(0, 7, 2, 23, 1), 23);
            is("within one less: COINS", x.cheapest(0, 7, 2, 22, 0), 9);
            is("within one less: HOURS", x.cheapest(0, 7, 2, 22, 1), 17);
            is("both bought: COINS", x.cheapest(0, 7, 2, 16, 0), 18);
            is("both bought: HOURS", x.cheapest(0, 7, 2, 16, 1), 12);
            is("it can't be", x.cheapest(0, 7, 2, 11, 0), -2);
        }
    }

    // ---- histories

    private static void historiesFar() {
        DUE.part("promise 19, far places");
        SecondTry x = Towns.withLaw(DUE, "a(k=0&j=1)");
        int[] two = {1, 0};
        is("more than v count, too: ten and six part better", Towns.histories(x, two, 3, 2), 1);
        is("as many as v or more", Towns.histories(x, two, 3, 0, 1, 1), 10);
        for (int at = 0; at < 10; at++) {
            int[] told = new int[20];
            told[2 * at + 1] = 2;
            is("neither 1 nor 0 at " + at, Towns.histories(x, two, 9, 0, told), -3);
            told[2 * at + 1] = 0;
            told[2 * at] = 2;
            is("no such place at " + at, Towns.histories(x, two, 9, 0, told), -3);
        }
    }
}
