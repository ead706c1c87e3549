import java.util.List;
import java.util.function.BooleanSupplier;

/** The bounds of laws and plans: what can stand where, how deep, how long, and how a law reckons (promises 5, 6). */
public final class TextBoundsTest {
    private static final Due DUE = new Due();
    private static final int MIN = Integer.MIN_VALUE;
    private static final int MAX = Integer.MAX_VALUE;
    private static final int NONE = SecondTry.NONE;
    private static final String DIGITS = "0123456789";
    private static final String SIGNS = "+-*/%";
    private static final String FACTORS = DIGITS + "khxjymdpqnow[";
    private static final String PIECES = FACTORS + "(!";
    private static final String REFUSED = "1/0=1";
    private static final List<String> HOLDING = List.of("1=1", "1<2", "2>1");
    private static final List<String> ALL_PIECES = List.of("1=1", "1<2", "2>1", "1=2", "2<2", "2>2", REFUSED);

    public static void main(String[] args) {
        lawsRefused();
        lawsOfFullTapes();
        lawsBefore();
        signsOfClauses();
        signsOfSums();
        signsOfConditions();
        digits();
        clauses();
        openTogether();
        openBehindOneAnother();
        firstFault();
        sumsOfEdges();
        reckonedFromTheLeft();
        beyondBounds();
        overNothing();
        askedAsMatters();
        firstClauseThatHolds();
        plansRefused();
        plansBefore();
        signsOfPlans();
        roundsOpen();
        stepsOfRounds();
        stepsOfInnerRounds();
        longPlans();
        DUE.end("TextBoundsTest");
    }

    private static void is(String call, long got, long want) {
        DUE.is(call, got, want);
    }

    // ---- promise 5: the tape and the law before

    private static void lawsRefused() {
        DUE.part("promise 5, refused");
        SecondTry x = Towns.withLaw(DUE, "v7(1=1);a(1=1)");
        DUE.refuses(x, "law(1) of an empty tape", NONE, () -> x.law(1));
        Towns.feed(x, "v5(1=1)");
        for (int n : new int[] {MIN, -1, 0, 21, 240, 241, 260, 261, MAX}) {
            DUE.refuses(x, "law(" + n + ") of 20 bytes", NONE, () -> x.law(n));
        }
        is("the tape stayed as it was", x.law(7), 1);
        is("the law is in place of the one before", x.has(0, 0, 4), 5);
        is("all of it", x.alike(0, 1), 0);
        is("the tape is empty", x.count(4), 0);
    }

    private static void lawsOfFullTapes() {
        DUE.part("promise 5, 240 bytes");
        String most = "v8(" + "1=2|".repeat(58) + "1=1)";
        is("bytes", most.length(), 239);
        String full = "v88(" + "1=2|".repeat(58) + "1=1)";
        is("bytes", full.length(), 240);
        for (int i = 0; i < 2; i++) {
            SecondTry x = Towns.town();
            is("240 bytes of 240", Towns.law(x, full), 1);
            is("v", x.has(0, 0, 4), 88);
            Towns.feed(x, most + ";".repeat(21));
            is("a full tape", x.count(4), 260);
            for (int n : new int[] {241, 242, 260, 261}) {
                DUE.refuses(x, "law(" + n + ") of 260 bytes", NONE, () -> x.law(n));
            }
            if (i == 0) {
                DUE.empties(x, "a ; and the end", -1240, () -> x.law(240));
            } else {
                is("239 bytes of 260", x.law(239), 1);
                is("v", x.has(0, 0, 4), 8);
                is("the whole tape is empty", x.count(4), 0);
            }
        }
        SecondTry x = Towns.town();
        Towns.feed(x, "v88(" + "1=2|".repeat(58) + "1=11)))))))))))))))))))");
        DUE.empties(x, "the end at byte 240", -1240, () -> x.law(240));
    }

    private static void lawsBefore() {
        DUE.part("promise 5, the one before stays");
        SecondTry x = Towns.withLaw(DUE, "v7(1=1);a(k=1);f3(1=1);c4(1=1)");
        x.tries(0, 0, NONE);
        String[] texts = {"v3(1=1);x", "v123456(1=1)", "a(!!!!!!1=1)", "a(1=1);".repeat(16) + "a(1=1)", "v3(1=1)v"};
        int[] due = {-1008, -2006, -5007, -4112, -1007};
        for (int i = 0; i < texts.length; i++) {
            String text = texts[i];
            Towns.feed(x, text);
            DUE.empties(x, text, due[i], () -> x.law(text.length()));
            is("CLAUSES stay", x.count(3), 4);
        }
    }

    // ---- promise 5: fault 1

    /** Behind a text of a law all bytes of a row can stand, and no other ones. */
    private static void canStand(String text, String signs) {
        for (int sign = 0; sign < 256; sign++) {
            SecondTry x = new SecondTry();
            String longer = text + (char) sign;
            int got = Towns.law(x, longer);
            int place = -1000 - text.length();
            if (signs.indexOf((char) sign) < 0) {
                is(longer + " (" + sign + ")", got, place);
            } else {
                DUE.is(longer + " can stand", got > 0 || got == place - 1, true);
            }
        }
        if (!text.isEmpty() && !text.endsWith(")")) {
            is(text + ": the end", Towns.law(new SecondTry(), text), -1000 - text.length());
        }
    }

    private static void signsOfClauses() {
        DUE.part("promise 5, what can stand");
        canStand("", "avfc");
        canStand("a", "(");
        canStand("v", FACTORS);
        canStand("f", FACTORS);
        canStand("c", FACTORS);
        canStand("a(k=k)", ";");
        canStand("v9(k=k)", ";");
        canStand("a(k=k);", "avfc");
        canStand("a(k=k);a", "(");
        canStand("a(k=k);f", FACTORS);
    }

    private static void signsOfSums() {
        DUE.part("promise 5, what can stand in a sum");
        canStand("v1", DIGITS + SIGNS + "(");
        canStand("v12", DIGITS + SIGNS + "(");
        canStand("v1234", DIGITS + SIGNS + "(");
        for (char letter : "khxjymdpqnow".toCharArray()) {
            canStand("v" + letter, SIGNS + "(");
            canStand("a(" + letter, SIGNS + "<>=");
        }
        for (char sign : SIGNS.toCharArray()) {
            canStand("c1" + sign, FACTORS);
            canStand("a(1" + sign, FACTORS);
        }
        canStand("v[", FACTORS);
        canStand("v[k", SIGNS + "]");
        canStand("v[k+", FACTORS);
        canStand("v[[k", SIGNS + "]");
        canStand("v[[k]", SIGNS + "]");
        canStand("v[k]", SIGNS + "(");
    }

    private static void signsOfConditions() {
        DUE.part("promise 5, what can stand in a condition");
        canStand("a(", PIECES);
        canStand("v1(", PIECES);
        canStand("a((", PIECES);
        canStand("a(!", PIECES);
        canStand("a(1", DIGITS + SIGNS + "<>=");
        canStand("a([1]", SIGNS + "<>=");
        for (char sign : "<>=".toCharArray()) {
            canStand("a(k" + sign, FACTORS);
            canStand("a(k" + sign + "k", SIGNS + "&|)");
            canStand("a(k" + sign + "1", DIGITS + SIGNS + "&|)");
            canStand("a(k" + sign + "[1]", SIGNS + "&|)");
        }
        canStand("a(k=k&", PIECES);
        canStand("a(k=k|", PIECES);
        canStand("a((k=k", SIGNS + "&|)");
        canStand("a((k=k)", "&|)");
        canStand("a(!k=k", SIGNS + "&|)");
        canStand("a(!(k=k)", "&|)");
        canStand("a((k=k)&", PIECES);
        canStand("a(!(k=k)|", PIECES);
        canStand("a([k", SIGNS + "]");
        canStand("a(k=[k", SIGNS + "]");
    }

    // ---- promise 5: faults 2, 4, 5

    private static void digits() {
        DUE.part("promise 5, digits");
        SecondTry x = Towns.town();
        is("one digit", Towns.law(x, "v5(5=5)"), 1);
        is("five digits", Towns.law(x, "v00045(00005=5)"), 1);
        is("their value", x.has(0, 0, 4), 45);
        is("99999", Towns.law(x, "v9(99999+1=10*10000)"), 1);
        is("its value", x.has(0, 0, 4), 9);
        for (char digit : DIGITS.toCharArray()) {
            is("a sixth digit", Towns.law(x, "v00000" + digit + "(1=1)"), -2006);
            is("a sixth digit", Towns.law(x, "a(1=12345" + digit), -2009);
            is("a sixth digit", Towns.law(x, "a([99999" + digit), -2008);
        }
        is("a sixth behind a sign is none", Towns.law(x, "v12345-12345(12345=12345)"), 1);
        is("its place, not that of the seventh", Towns.law(x, "v1234567(1=1)"), -2006);
    }

    private static void clauses() {
        DUE.part("promise 5, clauses");
        String fifteen = "a(1=1);".repeat(15);
        SecondTry x = Towns.town();
        is("15", Towns.law(x, fifteen.substring(0, 104)), 15);
        for (String letter : new String[] {"a(1=1)", "v7(1=1)", "f1(1=1)", "c1(1=1)"}) {
            is("16", Towns.law(x, fifteen + letter), 16);
            is("CLAUSES", x.count(3), 16);
            is("a 17th, whole", Towns.law(x, fifteen + "a(1=1);" + letter), -4112);
            is("a 17th, its letter alone", Towns.law(x, fifteen + "a(1=1);" + letter.charAt(0)), -4112);
            is("a 17th, not whole", Towns.law(x, fifteen + "a(1=1);" + letter.charAt(0) + "#"), -4112);
        }
        is("a 17th that can't stand", Towns.law(x, fifteen + "a(1=1);k(1=1)"), -1112);
        is("no 17th", Towns.law(x, fifteen + "a(1=1);"), -1112);
        is("CLAUSES", x.count(3), 16);
        is("the 16th is asked, too", Towns.law(x, "v7(1=2);".repeat(15) + "v6(1=1)"), 16);
        is("v", x.has(0, 0, 4), 6);
        is("the 16th is asked, too", Towns.law(x, "a(1=2);".repeat(15) + "a(1=1)"), 16);
        is("alike", x.alike(0, 1), 1);
    }

    /** All rows of ( [ ! that can stand in one another: six are open at most, the clause's own ( among them. */
    private static void openTogether() {
        DUE.part("promise 5, open");
        openMore("a(", 1);
        openMore("v", 0);
    }

    private static void openMore(String text, int open) {
        boolean inSum = text.endsWith("[") || text.equals("v");
        for (char sign : (inSum ? "[" : "([!").toCharArray()) {
            if (open == 6) {
                is(text + sign, Towns.law(new SecondTry(), text + sign), -5000 - text.length());
                is(text + sign + "#", Towns.law(new SecondTry(), text + sign + "#"), -5000 - text.length());
            } else {
                is(text + sign, Towns.law(new SecondTry(), text + sign), -1001 - text.length());
                openMore(text + sign, open + 1);
            }
        }
        is("closed again: " + text, Towns.law(new SecondTry(), closed(text)), 1);
    }

    /** The text with what is open in it closed, and a condition behind a sum. */
    private static String closed(String text) {
        StringBuilder whole = new StringBuilder(text).append('1');
        boolean compared = text.charAt(0) == 'v';
        for (int at = text.length() - 1; at >= 1; at--) {
            char sign = text.charAt(at);
            if (sign != '[' && !compared) {
                whole.append("=1");
                compared = true;
            }
            whole.append(sign == '[' ? "]" : sign == '(' ? ")" : "");
        }
        return whole.append(text.charAt(0) == 'v' ? "(1=1)" : "").toString();
    }

    private static void openBehindOneAnother() {
        DUE.part("promise 5, closed and opened again");
        SecondTry x = Towns.town();
        is("a ! is open till its piece ends", Towns.law(x, "v9(!!!!!1=1&!!!!!1=1|!!!!!1=1)"), 1);
        is("a seventh behind it", Towns.law(x, "v9(!!!!!1=1&!!!!!!1=1)"), -5017);
        is("a ! is open in its piece's sums", Towns.law(x, "v9(!!!!![1]=1)"), -5008);
        is("on both sides", Towns.law(x, "v9(!!!!1=[[1]])"), -5010);
        is("on both sides", Towns.law(x, "v9(!!!![1]=[1])"), 1);
        is("a ! ends with its ( )", Towns.law(x, "v9(!!(!(1=1))&!!(!(1=1)))"), 1);
        is("( ) behind one another", Towns.law(x, "v9(((((1=1)))&(((1=1))))|((((1=1)))))"), 1);
        is("the outermost ( ) still counts", Towns.law(x, "v9((1=1)|(((((1=1))))))"), 1);
        is("the outermost ( ) still counts", Towns.law(x, "v9((1=1)|((((((1=1)))))))"), -5014);
        is("[ ] behind one another", Towns.law(x, "v[[[[[[1]]]]]]+[[[[[[1]]]]]](1=1)"), 1);
        is("v", x.has(0, 0, 4), 2);
        is("a seventh [ behind", Towns.law(x, "v[[[[[[1]]]]]]+[[[[[[[1"), -5021);
        is("the sum stands ahead of the (", Towns.law(x, "v[[[[[[1]]]]]]((((((1=1))))))"), 1);
        is("the condition has six of its own", Towns.law(x, "v[[[[[[1]]]]]](((((((1=1"), -5020);
        is("another clause begins anew", Towns.law(x, "a((((((1=1))))));a((((((1=1))))))"), 2);
    }

    private static void firstFault() {
        DUE.part("promise 5, the first from the left");
        SecondTry x = new SecondTry();
        is("fault 1 ahead of 2", Towns.law(x, "v1(1=1)#123456"), -1007);
        is("fault 2 ahead of 1", Towns.law(x, "v123456#"), -2006);
        is("fault 5 ahead of 1", Towns.law(x, "a(!!!!!!#"), -5007);
        is("fault 1 ahead of 5", Towns.law(x, "a(!!!!!#!"), -1007);
        is("fault 4 ahead of 2", Towns.law(x, "a(1=1);".repeat(16) + "v123456"), -4112);
        is("fault 2 ahead of 4", Towns.law(x, "a(1=1);".repeat(15) + "v123456(1=1);a"), -2111);
        is("a seventh that can't stand is fault 1", Towns.law(x, "a(!!!!!1("), -1008);
        is("a seventh that can't stand is fault 1", Towns.law(x, "a(!!!!!1=!"), -1009);
        is("a sixth digit that could not stand as a first one", Towns.law(x, "v[1]5"), -1004);
        is("a blank", Towns.law(x, "v1 (1=1)"), -1002);
        is("a blank ahead", Towns.law(x, " v1(1=1)"), -1000);
        is("a blank behind", Towns.law(x, "v1(1=1) "), -1007);
    }

    // ---- promise 5: reckoning with 32 bits

    /** A number of 32 bits in the law's language, without a sum that wraps around. */
    private static String number(int value) {
        int high = value >> 16;
        int low = value & 65535;
        return "[" + (high < 0 ? "[0-" + -high + "]" : String.valueOf(high)) + "*65536+" + low + "]";
    }

    private static boolean holds(String condition) {
        SecondTry x = Towns.town();
        is("law of " + condition, Towns.law(x, "v7(" + condition + ")"), 1);
        return x.has(0, 0, 4) == 7;
    }

    private static void sumsOfEdges() {
        DUE.part("promise 5, 32 bits");
        int[] edges = {MIN, MIN + 1, -65537, -46341, -2, -1, 0, 1, 2, 3, 46340, 46341, 65535, 65536, 99999, MAX - 1, MAX};
        for (int a : edges) {
            for (int b : edges) {
                String left = number(a);
                String right = number(b);
                DUE.is(a + "+" + b, holds(left + "+" + right + "=" + number(a + b)), true);
                DUE.is(a + "-" + b, holds(left + "-" + right + "=" + number(a - b)), true);
                DUE.is(a + "*" + b, holds(left + "*" + right + "=" + number(a * b)), true);
                if (b != 0) {
                    DUE.is(a + "/" + b, holds(left + "/" + right + "=" + number(a / b)), true);
                    DUE.is(a + "%" + b, holds(left + "%" + right + "=" + number(a % b)), true);
                }
                DUE.is(a + "<" + b, holds(left + "<" + right), a < b);
                DUE.is(a + ">" + b, holds(left + ">" + right), a > b);
                DUE.is(a + "=" + b, holds(left + "=" + right), a == b);
                DUE.is("!" + a + "<" + b, holds("!" + left + "<" + right), a >= b);
                DUE.is("!" + a + ">" + b, holds("!" + left + ">" + right), a <= b);
                DUE.is("!" + a + "=" + b, holds("!" + left + "=" + right), a != b);
            }
        }
    }

    private static void reckonedFromTheLeft() {
        DUE.part("promise 5, from the left on");
        String[] equal = {"9-5-3=1", "9-5+3=7", "16/4/2=2", "16/4*2=8", "16*4/3=21", "17%10%4=3", "17%10*4=28", "17*10%4=2",
            "2+3*4=14", "2*3+4=10", "20-6/4=19", "20-7%4=17", "[2+3]*4=20", "20/[7-2]=4", "1-2*3+10/4%2=0-5",
            "2147*1000*1000/1000/1000=2147", "2148*1000*1000/1000/1000=0-2146", "65536*65536/65536=0", "99999*99999%10=9"};
        for (String condition : equal) {
            DUE.is(condition, holds(condition), true);
        }
        DUE.is("99999*99999 wraps to 1409865409", holds("99999*99999=" + number(1409865409)), true);
        DUE.is("a difference below all wraps to above 0", holds("[0-32768]*65536-1>0"), true);
        DUE.is("a sum above all wraps to below 0", holds("32767*65536+65535+1<0"), true);
        DUE.is("rounded towards 0", holds("[0-7]/2=0-3&7/[0-2]=0-3&[0-7]/[0-2]=3"), true);
        DUE.is("what is left has the sign of what is divided", holds("[0-7]%2=0-1&7%[0-2]=1&[0-7]%[0-2]=0-1"), true);
    }

    /** An E beyond its bounds is the bound: of v 0 and 99, of c 0 and 999 (f is tested by days elsewhere). */
    private static void beyondBounds() {
        DUE.part("promise 5, beyond the bounds");
        String[] sums = {"0", "1", "98", "99", "100", "998", "999", "1000", "99999", "0-1", "32767*65536+65535",
            "32767*65536+65535+1", "[0-32768]*65536", "[0-32768]*65536-1", "65536*65536", "65536*65536+5", "46341*46341"};
        long[] values = {0, 1, 98, 99, 100, 998, 999, 1000, 99999, -1, MAX, MIN, MIN, MAX, 0, 5, 46341 * 46341};
        for (int i = 0; i < sums.length; i++) {
            SecondTry x = Towns.town();
            is("law", Towns.law(x, "v" + sums[i] + "(1=1);c" + sums[i] + "(1=1)"), 2);
            is("v" + sums[i], x.has(0, 0, 4), Math.max(0, Math.min(99, values[i])));
            is("c" + sums[i], x.cost(0, 0, 1), Math.max(0, Math.min(999, values[i])));
        }
    }

    private static void overNothing() {
        DUE.part("promise 5, what is divided by 0");
        String[] sums = {"1/0", "0/0", "1%0", "0%0", "9+1/0", "9-1%0", "1/0+9", "9*[1/0]", "[9+[1%0]]", "9/[3-3]", "9/[65536*65536]",
            "9/p", "9%[1/2]", "9/j", "[0-32768]*65536/0"};
        for (String sum : sums) {
            SecondTry x = Towns.town();
            is("law", Towns.law(x, "v" + sum + "(1=1);v5(1=1);c" + sum + "(1=1)"), 3);
            is("an E is 0: " + sum, x.has(0, 0, 4), 0);
            is("an E is 0: " + sum, x.cost(0, 0, 1), 0);
            DUE.is("a C does not hold: " + sum + "=" + sum, holds(sum + "=" + sum), false);
            DUE.is("nor behind !", holds("!" + sum + "=" + sum), false);
            DUE.is("nor within ( )", holds("!(" + sum + ">1)"), false);
            is("law", Towns.law(x, "a(" + sum + "=0)"), 1);
            is("not alike", x.alike(0, 1), 0);
        }
        SecondTry x = Towns.town();
        is("the next clause", Towns.law(x, "v5(1/0=0);v6(1=1)"), 2);
        is("v", x.has(0, 0, 4), 6);
        is("the C holds, its E is refused", Towns.law(x, "v1/0(1=1);v6(1=1)"), 2);
        is("v", x.has(0, 0, 4), 0);
    }

    private static boolean asks(String piece) {
        if (piece.equals(REFUSED)) {
            throw new IllegalStateException(piece);
        }
        return HOLDING.contains(piece);
    }

    private static boolean holdsSo(BooleanSupplier condition) {
        try {
            return condition.getAsBoolean();
        } catch (IllegalStateException refused) {
            return false;
        }
    }

    /** Of a C as much is asked, from the left, as matters: what is not asked can't be refused. */
    private static void askedAsMatters() {
        DUE.part("promise 5, as much as matters");
        for (String a : ALL_PIECES) {
            DUE.is("!" + a, holds("!" + a), holdsSo(() -> !asks(a)));
            DUE.is("!!" + a, holds("!!" + a), holdsSo(() -> asks(a)));
            for (String b : ALL_PIECES) {
                DUE.is(a + "&" + b, holds(a + "&" + b), holdsSo(() -> asks(a) && asks(b)));
                DUE.is(a + "|" + b, holds(a + "|" + b), holdsSo(() -> asks(a) || asks(b)));
                DUE.is("!(" + a + "&" + b + ")", holds("!(" + a + "&" + b + ")"), holdsSo(() -> !(asks(a) && asks(b))));
                DUE.is("!(" + a + "|" + b + ")", holds("!(" + a + "|" + b + ")"), holdsSo(() -> !(asks(a) || asks(b))));
                DUE.is("!" + a + "|" + b, holds("!" + a + "|" + b), holdsSo(() -> !asks(a) || asks(b)));
                for (String c : ALL_PIECES) {
                    asksThree(a, b, c);
                }
            }
        }
    }

    private static void asksThree(String a, String b, String c) {
        DUE.is("a&b|c", holds(a + "&" + b + "|" + c), holdsSo(() -> asks(a) && asks(b) || asks(c)));
        DUE.is("a|b&c", holds(a + "|" + b + "&" + c), holdsSo(() -> asks(a) || asks(b) && asks(c)));
        DUE.is("a|b|c", holds(a + "|" + b + "|" + c), holdsSo(() -> asks(a) || asks(b) || asks(c)));
        DUE.is("a&b&c", holds(a + "&" + b + "&" + c), holdsSo(() -> asks(a) && asks(b) && asks(c)));
        DUE.is("(a|b)&c", holds("(" + a + "|" + b + ")&" + c), holdsSo(() -> (asks(a) || asks(b)) && asks(c)));
        DUE.is("a&(b|c)", holds(a + "&(" + b + "|" + c + ")"), holdsSo(() -> asks(a) && (asks(b) || asks(c))));
        DUE.is("a|!(b&c)", holds(a + "|!(" + b + "&" + c + ")"), holdsSo(() -> asks(a) || !(asks(b) && asks(c))));
        DUE.is("(a&!b)|c", holds("(" + a + "&!" + b + ")|" + c), holdsSo(() -> asks(a) && !asks(b) || asks(c)));
    }

    private static void firstClauseThatHolds() {
        DUE.part("promise 5, which clause");
        SecondTry x = Towns.town();
        Towns.law(x, "a(1=1)");
        is("without a v 1", x.has(0, 0, 4), 1);
        Towns.law(x, "f5(1=1);c6(1=1)");
        is("without a v 1", x.has(0, 0, 4), 1);
        is("without an a none", x.alike(0, 1), 0);
        Towns.law(x, "v5(1=2);f7(1=1);c8(1=1)");
        is("a v that does not hold: 0", x.has(0, 0, 4), 0);
        is("c of its own", x.cost(0, 0, 1), 8);
        Towns.law(x, "v5(1=2);v6(1=1);v7(1=1);c1(1=2);c2(1=1);c3(1=1)");
        is("the first that holds", x.has(0, 0, 4), 6);
        is("the first that holds", x.cost(0, 0, 1), 2);
        Towns.law(x, "v0(1=1);v7(1=1)");
        is("0, too", x.has(0, 0, 4), 0);
        Towns.law(x, "v5(k=0);v6(k=1)");
        is("of 2 none holds", x.has(0, 2, 4), 0);
        is("of 1", x.has(0, 1, 4), 6);
    }

    // ---- promise 6

    private static void plansRefused() {
        DUE.part("promise 6, refused");
        SecondTry x = Towns.town();
        x.person(7, 0);
        Towns.plan(x, 0, "1,1");
        DUE.refuses(x, "an empty tape", NONE, () -> x.plan(0, 1));
        Towns.feed(x, "0,0,0");
        for (int p : new int[] {MIN, -1, 3, 6, 8, 32, MAX}) {
            DUE.refuses(x, "plan(" + p + ", 5)", NONE, () -> x.plan(p, 5));
        }
        for (int n : new int[] {MIN, -1, 0, 21, 80, 81, 260, MAX}) {
            DUE.refuses(x, "plan(0, " + n + ") of 20 bytes", NONE, () -> x.plan(0, n));
        }
        is("the tape stayed as it was", x.plan(7, 5), 3);
        is("STEPS of 7", x.count(87), 3);
        is("STEPS of 0", x.count(80), 2);
        is("the tape is empty", x.count(4), 0);
        Towns.feed(x, "0,".repeat(130));
        for (int n : new int[] {81, 82, 240, 260, 261}) {
            DUE.refuses(x, "plan(0, " + n + ") of 260 bytes", NONE, () -> x.plan(0, n));
        }
        is("79 of 260 bytes", x.plan(0, 79), 40);
        is("the whole tape is empty", x.count(4), 0);
    }

    private static void plansBefore() {
        DUE.part("promise 6, the one before stays");
        SecondTry x = Towns.town();
        Towns.plan(x, 1, "((3)5)8");
        x.days(1);
        String[] texts = {"x", "12", "0&8", "((((0", "((0)9)9", "0,"};
        int[] due = {-1000, -3000, -3002, -5003, -6000, -1002};
        for (int i = 0; i < texts.length; i++) {
            String text = texts[i];
            Towns.feed(x, text);
            DUE.empties(x, text, due[i], () -> x.plan(1, text.length()));
            is("STEPS left", x.count(81), 37);
        }
        is("it goes on where it was", x.tried(1, 0), 3);
        is("the least PLAN", Towns.plan(x, 1, "0"), 1);
        is("STEPS left", x.count(81), 1);
    }

    /** Behind a text of a plan the bytes of a row can stand; those of the other row are a fault 3 there. */
    private static void planCanStand(String text, String signs, String beyond, int place) {
        for (int sign = 0; sign < 256; sign++) {
            SecondTry x = Towns.town();
            String longer = text + (char) sign;
            int got = Towns.plan(x, 0, longer);
            int end = -1000 - text.length();
            if (beyond.indexOf((char) sign) >= 0) {
                is(longer, got, -3000 - place);
            } else if (signs.indexOf((char) sign) >= 0) {
                DUE.is(longer + " can stand", got > 0 || got == end - 1, true);
            } else {
                is(longer + " (" + sign + ")", got, end);
            }
        }
    }

    private static void signsOfPlans() {
        DUE.part("promise 6, what can stand");
        planCanStand("", DIGITS + "(", "", 0);
        planCanStand("0", DIGITS + ",&", "", 0);
        planCanStand("1", "01,&", "23456789", 0);
        planCanStand("2", ",&", DIGITS, 0);
        planCanStand("9", ",&", DIGITS, 0);
        planCanStand("0,1", "01,&", "23456789", 2);
        planCanStand("09", ",&", "", 0);
        planCanStand("11", ",&", "", 0);
        planCanStand("1&", "01234567", "89", 2);
        planCanStand("11&", "01234567", "89", 3);
        planCanStand("(0,3&", "01234567", "89", 5);
        planCanStand("1&7", ",", "", 0);
        planCanStand("1,", DIGITS + "(", "", 0);
        planCanStand("(", DIGITS + "(", "", 0);
        planCanStand("(0", DIGITS + ",&)", "", 0);
        planCanStand("(1", "01,&)", "23456789", 1);
        planCanStand("(11", ",&)", "", 0);
        planCanStand("(1&0", ",)", "", 0);
        planCanStand("(1)", "23456789", "", 0);
        planCanStand("(1)2", ",", "", 0);
        planCanStand("((1)2", ",)", "", 0);
        planCanStand("((1)2)", "23456789", "", 0);
        planCanStand("(1)9,", DIGITS + "(", "", 0);
        for (String text : new String[] {"1,", "1&", "(", "(1", "(1,", "(1)", "((1)2", "(1)2,"}) {
            is(text + ": the end", Towns.plan(Towns.town(), 0, text), -1000 - text.length());
        }
        is("behind two digits, whatever follows", Towns.plan(Towns.town(), 0, "12x"), -3000);
        is("behind one digit what can't stand", Towns.plan(Towns.town(), 0, "9x"), -1001);
        is("the last KIND and PERSON", Towns.plan(Towns.town(), 0, "11&7"), 1);
    }

    private static void roundsOpen() {
        DUE.part("promise 6, open");
        SecondTry x = Towns.town();
        is("three are open", Towns.plan(x, 0, "(((0)2)2)2"), 8);
        is("a fourth", Towns.plan(x, 0, "((((0)2)2)2)2"), -5003);
        is("a fourth alone", Towns.plan(x, 0, "(((("), -5003);
        is("a fourth behind a STEP", Towns.plan(x, 0, "(((0,("), -5005);
        is("a fourth behind what was closed", Towns.plan(x, 0, "((0)2,((0)2,(("), -5013);
        is("closed and opened again", Towns.plan(x, 0, "(((0)2,(0)2)2,((0)2)2)2"), 24);
        is("side by side", Towns.plan(x, 0, "(0)2,(0)2,(0)2,(0)2,(0)2"), 10);
    }

    private static String zeros(int steps) {
        return "0" + ",0".repeat(steps - 1);
    }

    /** STEPS ahead of rounds, in rounds, rounds: 40 at most in all, else the fault stands at the (. */
    private static void stepsOfRounds() {
        DUE.part("promise 6, 40 STEPS");
        for (int ahead = 0; ahead <= 12; ahead++) {
            for (int inside = 1; inside <= 20; inside++) {
                for (int times = 2; times <= 9; times++) {
                    String before = ahead == 0 ? "" : zeros(ahead) + ",";
                    String text = before + "(" + zeros(inside) + ")" + times;
                    int steps = ahead + inside * times;
                    int got = Towns.plan(Towns.town(), 0, text);
                    is(text, got, steps <= 40 ? steps : -6000 - before.length());
                }
            }
        }
        SecondTry x = Towns.town();
        is("40 and one more", Towns.plan(x, 0, "((0)5)8,0"), -6008);
        is("at its first byte", Towns.plan(x, 0, "((0)5)8,11&7"), -6008);
        is("asked when it ends", Towns.plan(x, 0, "((0)5)8,11&"), -1011);
        is("asked when it ends", Towns.plan(x, 0, "((0)5)8,11&8"), -3011);
        is("asked when it ends", Towns.plan(x, 0, "((0)5)8,12"), -3008);
        is("ahead of what stands behind it", Towns.plan(x, 0, "((0)5)8,1x"), -6008);
        is("ahead of what stands behind it", Towns.plan(x, 0, "((0)5)9x"), -6000);
        is("39 and one more", Towns.plan(x, 0, "(" + zeros(13) + ")3,0"), 40);
        is("39 and two more", Towns.plan(x, 0, "(" + zeros(13) + ")3,0,0"), -6031);
    }

    private static void stepsOfInnerRounds() {
        DUE.part("promise 6, of an inner one first");
        SecondTry x = Towns.town();
        is("the inner one alone", Towns.plan(x, 0, "((0,0,0,0,0)9)2"), -6001);
        is("the innermost", Towns.plan(x, 0, "(0,((0,0,0,0,0)9)2)2"), -6004);
        is("the middle one", Towns.plan(x, 0, "(0,((0,0,0)9)2)2"), -6003);
        is("the outer one", Towns.plan(x, 0, "(0,((0,0)9)2)2"), -6000);
        is("a try within", Towns.plan(x, 0, "((0)5)8,(0)2"), -6009);
        is("the second within", Towns.plan(x, 0, "(" + zeros(13) + ")3,(0,0)2"), -6032);
        is("the one round within", Towns.plan(x, 0, "(" + zeros(13) + ")3,(0)2"), -6029);
        is("40 by three rounds", Towns.plan(x, 0, "(((0,0)2)2)5"), 40);
        is("45 by three rounds", Towns.plan(x, 0, "(((0)5)3)3"), -6000);
        is("what stands in rounds counts once till they end", Towns.plan(x, 0, "((0)5)7,(0,0,0,0,0x"), -1018);
        is("a sixth there", Towns.plan(x, 0, "((0)5)7,(0,0,0,0,0,0x"), -6019);
    }

    private static void longPlans() {
        DUE.part("promise 6, 80 bytes");
        SecondTry x = Towns.town();
        is("40 tries in 79 bytes", Towns.plan(x, 0, zeros(40)), 40);
        is("40 tries in 80 bytes", Towns.plan(x, 0, "1" + zeros(40)), 40);
        is("80 bytes and the end", Towns.plan(x, 0, zeros(40) + ","), -1080);
        is("80 bytes", Towns.plan(x, 0, "0" + zeros(39) + ",&"), -1079);
        String with = "11&7,".repeat(15) + "11&70";
        is("bytes", with.length(), 80);
        is("a PERSON of two digits at the end", Towns.plan(x, 0, with), -1079);
        is("16 STEPS in 79 bytes", Towns.plan(x, 0, with.substring(0, 79)), 16);
        is("STEPS", x.count(80), 16);
    }
}
