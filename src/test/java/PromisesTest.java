/** Each promise of the document: ordinary inputs, its edges, wrong inputs. */
public final class PromisesTest {
    private static final Due DUE = new Due();

    public static void main(String[] args) {
        newObject();
        kind();
        person();
        feed();
        law();
        lawLetters();
        lawConditions();
        plan();
        tries();
        forgetting();
        buys();
        days();
        tried();
        has();
        alike();
        cost();
        soonest();
        soonestByLaw();
        cheapest();
        loophole();
        jobs();
        rivals();
        histories();
        game();
        court();
        keepAndUndo();
        check();
        count();
        bounds();
        DUE.end("PromisesTest");
    }

    private static void is(String call, long got, long want) {
        DUE.is(call, got, want);
    }

    private static void is(String call, boolean got, boolean want) {
        DUE.is(call, got, want);
    }

    private static SecondTry townWithLaw(String text) {
        return Towns.withLaw(DUE, text);
    }

    private static void newObject() {
        DUE.part("promise 1");
        SecondTry x = new SecondTry();
        for (int what = 0; what <= 4; what++) {
            is("count(" + what + ")", x.count(what), 0);
        }
        for (int what = 5; what < 120; what++) {
            is("count(" + what + ")", x.count(what), SecondTry.NONE);
        }
        is("undo()", x.undo(), false);
        is("NONE", SecondTry.NONE, -1);
    }

    private static void kind() {
        DUE.part("promise 2");
        SecondTry x = new SecondTry();
        is("no such kind below", x.kind(-1, 1, 0, 0), false);
        is("no such kind above", x.kind(12, 1, 0, 0), false);
        is("hours 0", x.kind(5, 0, 0, 0), false);
        is("hours 13", x.kind(5, 13, 0, 0), false);
        is("marks below", x.kind(5, 1, -1, 0), false);
        is("marks above", x.kind(5, 1, 256, 0), false);
        is("needs itself", x.kind(5, 1, 0, 32), false);
        is("needs a higher one", x.kind(5, 1, 0, 64), false);
        is("needs one that is not told", x.kind(5, 1, 0, 1), false);
        is("needs below 0", x.kind(5, 1, 0, -1), false);
        is("needs the sign bit", x.kind(5, 1, 0, Integer.MIN_VALUE), false);
        is("told kinds", x.count(1), 0);
        is("kind 5", x.kind(5, 12, 255, 0), true);
        is("kind 5 again", x.kind(5, 12, 255, 0), false);
        is("kind 11 needs 5", x.kind(11, 1, 0, 32), true);
        is("kind 6 needs 11", x.kind(6, 1, 0, 1 << 11), false);
        is("kind 0", x.kind(0, 1, 0, 0), true);
        is("told kinds", x.count(1), 1 | 1 << 5 | 1 << 11);
        is("hours", x.count(15), 12);
        is("marks", x.count(35), 255);
        is("needs", x.count(61), 32);
    }

    private static void person() {
        DUE.part("promise 3");
        SecondTry x = new SecondTry();
        is("no such person below", x.person(-1, 0), false);
        is("no such person above", x.person(8, 0), false);
        is("coins below", x.person(0, -1), false);
        is("coins above", x.person(0, 100000), false);
        is("people", x.count(2), 0);
        is("person 7", x.person(7, 99999), true);
        is("coins", x.count(77), 99999);
        is("other coins", x.person(7, 3), true);
        is("coins", x.count(77), 3);
        is("coins above for a told one", x.person(7, 100000), false);
        is("coins stay", x.count(77), 3);
        is("people", x.count(2), 128);
        x.kind(0, 1, 0, 0);
        x.tries(7, 0, -1);
        x.person(7, 4);
        is("other coins leave tries", x.has(7, 0, 0), 1);
    }

    private static void feed() {
        DUE.part("promise 4");
        SecondTry x = new SecondTry();
        for (int i = 1; i <= 13; i++) {
            is("feed", x.feed(i, -1, 0, 0, 0), 20 * i);
        }
        is("no room", x.feed(0, 0, 0, 0, 0), SecondTry.NONE);
        is("tape", x.count(4), 260);
        x.person(0, 0);
        is("highest byte first", x.plan(0, 1), -1000);
        is("tape is empty", x.count(4), 0);
        x.feed('0' << 24 | ',' << 16 | '1' << 8 | ',', '2' << 24, 0, 0, 0);
        is("bytes in their order", x.plan(0, 5), 3);
        x.feed(-1, 0, 0, 0, 0);
        is("a byte above 127 can't stand", x.plan(0, 1), -1000);
    }

    private static void law() {
        DUE.part("promise 5");
        SecondTry x = new SecondTry();
        is("no bytes", x.law(1), SecondTry.NONE);
        x.feed(0, 0, 0, 0, 0);
        is("n 0", x.law(0), SecondTry.NONE);
        is("n below 0", x.law(-1), SecondTry.NONE);
        is("n above the tape", x.law(21), SecondTry.NONE);
        is("n 241", x.law(241), SecondTry.NONE);
        is("the tape stays", x.count(4), 20);
        is("a byte 0", x.law(20), -1000);
        is("the tape is empty", x.count(4), 0);
        is("one clause", Towns.law(x, "v2(1=1)"), 1);
        is("clauses", x.count(3), 1);
        String[] texts = {"", "v", "vk", "v(1=1)", "v1(1=1", "v1(1)", "v1(1=)", "v1(=1)", "v1()", "v1(1=1))", "v1(1=1);",
            "v1(1=1);;", "v1(1=1)v", "b1(1=1)", "V1(1=1)", "v1 (1=1)", "v-1(1=1)", "v1+(1=1)", "v1*+1(1=1)", "v[1(1=1)", "v[](1=1)",
            "v1](1=1)", "v(1)(1=1)", "a1(1=1)", "aa(1=1)", "a[1](1=1)", "v1(1=1=1)", "v1(1<=1)", "v1([1=1])", "v1((1)=1)",
            "v1(1=1&)", "v1(1=1|)", "v1(&1=1)", "v1(!)", "v1(1!1)", "v1(1=!1)", "v1(1=1!)", "v1(e=1)", "v1(1=1&&1=1)"};
        int[] places = {0, 1, 2, 1, 6, 4, 5, 3, 3, 7, 8,
            8, 7, 0, 0, 2, 1, 3, 3, 3, 2,
            2, 1, 1, 1, 1, 6, 5, 5, 5,
            7, 7, 3, 4, 4, 5, 6, 3, 7};
        for (int i = 1; i < texts.length; i++) {
            is(texts[i], Towns.law(x, texts[i]), -1000 - places[i]);
        }
        is("five digits", Towns.law(x, "v99999(00000=1)"), 1);
        is("a sixth digit", Towns.law(x, "v1(123456=1)"), -2008);
        is("a sixth digit before what can't stand", Towns.law(x, "v0000001"), -2006);
        is("six open", Towns.law(x, "a(!!!!!1=1)"), 1);
        is("seven open by !", Towns.law(x, "a(!!!!!!1=1)"), -5007);
        is("seven open by [", Towns.law(x, "a(!!!!![1]=1)"), -5007);
        is("seven open by (", Towns.law(x, "a(!(!(!(1=1))))"), -5007);
        is("a ! closes with its piece", Towns.law(x, "a(!1=1&!1=1&!1=1&!1=1&!1=1&!1=1&!1=1)"), 1);
        is("a ! closes with its ( )", Towns.law(x, "a(!(!(1=1))&(!(!(1=1))))"), 1);
        is("[ in a sum", Towns.law(x, "v[[[[[[1]]]]]](1=1)"), 1);
        is("a seventh [ in a sum", Towns.law(x, "v[[[[[[[1]]]]]]](1=1)"), -5007);
        is("a sixth [ in a condition", Towns.law(x, "v1([[[[[[1]]]]]]=1)"), -5008);
        is("a [ that can't stand, though seventh", Towns.law(x, "a(!!!!!1[1]=1)"), -1008);
        is("the end", Towns.law(x, "a(1=1&"), -1006);
        is("clauses stay", x.count(3), 1);
        clauses(x);
    }

    private static void clauses(SecondTry x) {
        StringBuilder text = new StringBuilder("a(1=1)");
        for (int i = 1; i < 16; i++) {
            text.append(";a(1=1)");
        }
        is("16 clauses", Towns.law(x, text.toString()), 16);
        is("clauses", x.count(3), 16);
        is("a 17th", Towns.law(x, text + ";c"), -4112);
        is("a 17th that can't stand", Towns.law(x, text + ";d"), -1112);
        is("no 17th", Towns.law(x, text + ";"), -1112);
        is("clauses stay", x.count(3), 16);
        text.setLength(0);
        text.append("v1(11=1");
        while (text.length() < 239) {
            text.append("|1=2");
        }
        text.append(")");
        is("240 bytes", text.length(), 240);
        is("a law of 240 bytes", Towns.law(x, text.toString()), 1);
        is("clauses", x.count(3), 1);
    }

    /** What each letter is, read by v of kind 2 (hours 3, marks 5) for person 1 with person 2. */
    private static void lawLetters() {
        DUE.part("promise 5, letters");
        char[] signs = {'k', 'h', 'x', 'j', 'y', 'm', 'd', 'p', 'q', 'n', 'o', 'w'};
        int[] alone = {2, 3, 5, 0, 0, 0, 0, 1, 8, 4, 6, 3};
        for (int i = 0; i < signs.length; i++) {
            SecondTry x = new SecondTry();
            x.kind(2, 3, 5, 0);
            x.kind(3, 1, 4, 0);
            x.person(1, 0);
            x.person(2, 0);
            for (int t = 0; t < 4; t++) {
                x.tries(1, 2, -1);
            }
            x.tries(2, 2, -1);
            x.tries(2, 2, -1);
            x.tries(2, 3, -1);
            is("law v" + signs[i], Towns.law(x, "v" + signs[i] + "(1=1);a(1=2)"), 2);
            is("v is " + signs[i], x.has(1, 2, 4), alone[i]);
            is("law c" + signs[i], Towns.law(x, "c" + signs[i] + "(1=1)"), 1);
            is("c is " + signs[i], x.cost(1, 2, 2), signs[i] == 'q' ? 2 : alone[i]);
            int[] inAlike = {2, 3, 5, 3, 4, 1, 0, 0, 0, 0, 0, 0};
            is("law a", Towns.law(x, "a(" + signs[i] + "=" + inAlike[i] + "&k=2)"), 1);
            is("in a it is " + signs[i], x.alike(2, 3), 1);
            is("law a", Towns.law(x, "a(!" + signs[i] + "=" + inAlike[i] + "&k=2)"), 1);
            is("in a it is not " + signs[i], x.alike(2, 3), 0);
        }
        SecondTry x = townWithLaw("v[q+1]*10+d(1=1);f1(q<8)");
        x.days(3);
        is("with nobody", x.has(1, 0, 4), 93);
        x.tries(1, 0, 2);
        x.days(1);
        is("in f q is 8", x.has(1, 0, 3), 1);
        x = townWithLaw("v5(q=2)");
        x.tries(0, 0, -1);
        is("with 1", x.tries(0, 0, 1), 1);
        is("with 2", x.tries(0, 0, 2), 0);
    }

    private static int v(String text) {
        SecondTry x = Towns.town();
        return Towns.law(x, text) < 0 ? -1 : x.has(0, 0, 4);
    }

    private static void lawConditions() {
        DUE.part("promise 5, reckoning");
        is("no v", v("c1(1=1)"), 1);
        is("a v that does not hold", v("v7(1=2)"), 0);
        is("the first that holds", v("v7(1=2);c9(1=1);v6(1=1);v5(1=1)"), 6);
        is("beyond the bound", v("v100(1=1)"), 99);
        is("below the bound", v("v1-2(1=1)"), 0);
        is("from the left on", v("v20-5-3(1=1)"), 12);
        is("factors first", v("v2+3*4-9/2(1=1)"), 10);
        is("factors from the left", v("v29/2*2%9(1=1)"), 1);
        is("brackets", v("v[2+3]*[4+1](1=1)"), 25);
        is("32 bits", v("v[65536*65536+7](1=1)"), 7);
        is("32 bits wrap", v("v5(99999*99999<0)"), 0);
        is("32 bits wrap to what they do", v("v5(99999*99999=1409865409)"), -1);
        is("32 bits wrap below 0", v("v5(50000*50000<0)"), 5);
        is("rounded to 0", v("v[0-7]/2+10(1=1)"), 7);
        is("what is left has the sign", v("v[0-7]%4+10(1=1)"), 7);
        is("the least number over -1", v("v5([0-32768]*65536/[0-1]=[0-32768]*65536)"), 5);
        is("over 0 an E is 0", v("v5+1/0(1=1)"), 0);
        is("what is left over 0, too", v("v5+1%0(1=1)"), 0);
        is("over 0 in a bracket the whole E", v("v5+[1/0](1=1)"), 0);
        is("over 0 a C does not hold", v("v5(0=1/0);v6(1=1)"), 6);
        is("nor its opposite", v("v5(!0=1/0);v6(1=1)"), 6);
        is("nor in ( )", v("v5(!(0=1/0));v6(1=1)"), 6);
        is("nor with another part", v("v5(0=1/0|1=1);v6(1=1)"), 6);
        is("a part that holds ends the asking", v("v5(1=1|0=1/0)"), 5);
        is("a piece that fails ends its part", v("v5(1=2&0=1/0|1=1)"), 5);
        is("a piece that holds does not", v("v5(1=1&0=1/0|1=1);v6(1=1)"), 6);
        is("a part in ( ) ends the asking there", v("v5((1=1|0=1/0)&2=2)"), 5);
        is("& binds closer", v("v5(1=1|1=1&1=2)"), 5);
        is("( ) bind closest", v("v5((1=1|1=1)&1=2)"), 0);
        is("! is of its piece alone", v("v5(!1=2&1=1)"), 5);
        is("! twice", v("v5(!!1=2)"), 0);
        is("<", v("v5(1<2)"), 5);
        is("< of like ones", v("v5(2<2)"), 0);
        is(">", v("v5(2>1)"), 5);
        is("> of like ones", v("v5(2>2)"), 0);
    }

    private static void plan() {
        DUE.part("promise 6");
        SecondTry x = new SecondTry();
        x.person(0, 0);
        is("no bytes", x.plan(0, 1), SecondTry.NONE);
        x.feed(0x30303030, 0x30303030, 0x30303030, 0x30303030, 0x30303030);
        is("not told", x.plan(1, 1), SecondTry.NONE);
        is("no such person", x.plan(8, 1), SecondTry.NONE);
        is("no such person below", x.plan(-1, 1), SecondTry.NONE);
        is("n 0", x.plan(0, 0), SecondTry.NONE);
        is("n 81", x.plan(0, 81), SecondTry.NONE);
        is("n above the tape", x.plan(0, 21), SecondTry.NONE);
        is("the tape stays", x.count(4), 20);
        is("00", x.plan(0, 2), 1);
        is("the tape is empty", x.count(4), 0);
        is("11&7", Towns.plan(x, 0, "11&7"), 1);
        is("rounds", Towns.plan(x, 0, "(0,(1,2)2)3,4"), 16);
        is("steps left", x.count(80), 16);
        is("99", Towns.plan(x, 0, "99"), -3000);
        is("12 in rounds", Towns.plan(x, 0, "(0,12)2"), -3003);
        is("a person 9", Towns.plan(x, 0, "0&9"), -3002);
        is("a person with two digits", Towns.plan(x, 0, "0&11"), -1003);
        is("two persons", Towns.plan(x, 0, "0&1&2"), -1003);
        is("rounds with a person", Towns.plan(x, 0, "(0)2&1"), -1004);
        is("rounds twice", Towns.plan(x, 0, "(0)22"), -1004);
        is("rounds 0", Towns.plan(x, 0, "(0)0"), -1003);
        is("no comma", Towns.plan(x, 0, "(0)2(1)2"), -1004);
        is("two commas", Towns.plan(x, 0, "0,,1"), -1002);
        is("a comma ahead", Towns.plan(x, 0, ",1"), -1000);
        is("three open", Towns.plan(x, 0, "(((0)2)2)2,(((0)2)2)2"), 16);
        is("four open", Towns.plan(x, 0, "(0,((0,(0)2)2)2)2"), -5007);
        is("the steps stay", x.count(80), 16);
        is("81 steps inside", Towns.plan(x, 0, "0,((0)9)9"), -6002);
        is("an inner one first", Towns.plan(x, 0, "(((0)9)9)9"), -6001);
        is("40 tries", Towns.plan(x, 0, rowOf(40)), 40);
        is("41 do not fit into 80 bytes", Towns.plan(x, 0, "(0)9,(0)9,(0)9,(0)9,0,0,0,0,11&x"), -1031);
        is("the 41st with a person", Towns.plan(x, 0, "(0)9,(0)9,(0)9,(0)9,0,0,0,0,11&2"), -6028);
        is("the 41st above 11", Towns.plan(x, 0, "(0)9,(0)9,(0)9,(0)9,0,0,0,0,12"), -3028);
        is("the 41st and what can't stand", Towns.plan(x, 0, "(0)9,(0)9,(0)9,(0)9,0,0,0,0,1x"), -6028);
    }

    private static String rowOf(int steps) {
        StringBuilder text = new StringBuilder("0");
        for (int i = 1; i < steps; i++) {
            text.append(",0");
        }
        return text.toString();
    }

    private static void tries() {
        DUE.part("promise 7");
        SecondTry x = Towns.town();
        x.kind(4, 1, 0, 3);
        is("not told person", x.tries(3, 0, -1), SecondTry.NONE);
        is("not told kind", x.tries(0, 5, -1), SecondTry.NONE);
        is("no such kind", x.tries(0, 12, -1), SecondTry.NONE);
        is("with itself", x.tries(0, 0, 0), SecondTry.NONE);
        is("with one that is not told", x.tries(0, 0, 3), SecondTry.NONE);
        is("with no such one", x.tries(0, 0, -2), SecondTry.NONE);
        is("with 8", x.tries(0, 0, 8), SecondTry.NONE);
        is("nothing happened", x.count(90), 0);
        is("first", x.tries(0, 0, -1), 0);
        is("second", x.tries(0, 0, 2), 1);
        is("third", x.tries(0, 0, -1), 1);
        is("tries", x.has(0, 0, 0), 3);
        is("counted", x.has(0, 0, 1), 2);
        is("with 2: nothing for 2", x.count(92), 0);
        is("needs, but old ones lack first", x.tries(0, 4, -1), 0);
        is("needs 0 and 1", x.tries(0, 4, -1), -2);
        is("a void one is a try", x.has(0, 4, 0), 2);
        is("that did not count", x.has(0, 4, 1), 0);
        x.tries(0, 1, -1);
        is("1 has tries, but did not count", x.tries(0, 4, -1), -2);
        x.tries(0, 1, -1);
        is("needs are met", x.tries(0, 4, -1), 1);
        x = townWithLaw("a(k=0&j=1);v2(1=1)");
        is("first of 1", x.tries(0, 1, -1), 0);
        is("0 finds 1 alike", x.tries(0, 0, -1), 0);
        is("old are those of both", x.tries(0, 0, -1), 1);
        is("1 finds not 0 alike", x.tries(0, 1, -1), 0);
        is("1 by its own", x.tries(0, 1, -1), 1);
    }

    private static void forgetting() {
        DUE.part("promise 7, forgetting");
        SecondTry x = townWithLaw("f2(1=1)");
        x.tries(0, 0, -1);
        x.tries(0, 1, -1);
        x.days(1);
        is("a day ago", x.tries(0, 0, -1), 1);
        x.days(1);
        is("the last was a day ago", x.tries(0, 0, -1), 1);
        is("1 is not alike, its tries stay", x.has(0, 1, 0), 1);
        x.days(2);
        is("two days ago", x.tries(0, 0, -1), 0);
        is("one try is left", x.has(0, 0, 0), 1);
        is("counted stays", x.has(0, 0, 1), 2);
        x = townWithLaw("f2(k=1);a(k=0)");
        x.tries(0, 1, -1);
        x.tries(0, 2, -1);
        x.days(5);
        is("f is asked of the kind alike", x.has(0, 0, 3), 1);
        is("nothing is forgotten by asking", x.has(0, 1, 0), 1);
        is("2 is old", x.tries(0, 0, -1), 1);
        is("1 is forgotten", x.has(0, 1, 0), 0);
        is("no day of a last try", x.has(0, 1, 2), -2);
        is("2 is not", x.has(0, 2, 0), 1);
        x = townWithLaw("f1-1(1=1)");
        x.tries(0, 0, -1);
        x.days(60);
        is("f 0: never", x.tries(0, 0, -1), 1);
        x = townWithLaw("f3(n<2)");
        x.tries(0, 0, -1);
        x.tries(0, 0, -1);
        x.days(3);
        is("f by n: two are kept", x.has(0, 0, 3), 2);
    }

    private static void buys() {
        DUE.part("promise 8");
        SecondTry x = townWithLaw("c10*q+n(1=1)");
        x.tries(1, 0, -1);
        x.tries(1, 0, -1);
        x.tries(1, 0, -1);
        is("of itself", x.buys(0, 0, 0), SecondTry.NONE);
        is("not told person", x.buys(3, 0, 1), SecondTry.NONE);
        is("not told seller", x.buys(0, 0, 3), SecondTry.NONE);
        is("not told kind", x.buys(0, 4, 1), SecondTry.NONE);
        is("nobody", x.buys(0, 0, -1), SecondTry.NONE);
        is("the seller has none", x.buys(0, 0, 2), -3);
        x.person(0, 9);
        is("too few, but the seller has none", x.buys(0, 0, 2), -3);
        is("too few", x.buys(0, 0, 1), -2);
        is("tries stay", x.has(1, 0, 0), 3);
        x.person(0, 10);
        x.days(4);
        is("just enough", x.buys(0, 0, 1), 10);
        is("coins of the buyer", x.count(70), 0);
        is("coins of the seller", x.count(71), 110);
        is("a try less", x.has(1, 0, 0), 2);
        is("a try more", x.has(0, 0, 0), 1);
        is("of the day", x.has(0, 0, 2), 4);
        is("the seller's last one stays", x.has(1, 0, 2), 0);
        is("nothing counted", x.count(100), 0);
        is("counted of the seller stays", x.has(1, 0, 1), 2);
        x.person(0, 50);
        x.person(1, 99990);
        is("n is one more", x.buys(0, 0, 1), 11);
        is("99999 at most", x.count(71), 99999);
        x.buys(0, 0, 1);
        is("the seller has no last try", x.has(1, 0, 2), -2);
        is("the first try counts then", x.tries(0, 0, -1), 1);
        x = Towns.town();
        x.tries(1, 0, -1);
        x.person(0, 0);
        is("without c it costs nothing", x.buys(0, 0, 1), 0);
    }

    private static void days() {
        DUE.part("promise 9");
        SecondTry x = Towns.town();
        x.kind(4, 12, 0, 0);
        is("n 0", x.days(0), SecondTry.NONE);
        is("n 61", x.days(61), SecondTry.NONE);
        is("n below 0", x.days(-5), SecondTry.NONE);
        is("the day", x.count(0), 0);
        Towns.plan(x, 0, "(3)4,0");
        is("three of four hours fit: two count", x.days(1), 2);
        is("steps left", x.count(80), 2);
        is("the day", x.count(0), 1);
        is("then the rest", x.days(1), 1);
        is("steps left", x.count(80), 0);
        is("of the day", x.has(0, 0, 2), 1);
        Towns.plan(x, 1, "4,9,0&1,0&7,1");
        is("what can't be is passed over without hours", x.days(1), 0);
        is("1 is left", x.count(81), 1);
        is("60 days", x.days(60), 0);
        is("the day", x.count(0), 63);
        x = townWithLaw("v1(q=8)");
        Towns.plan(x, 0, "0&1,0&1,1");
        is("with somebody", x.days(1), 2);
        Towns.plan(x, 1, "0,0");
        Towns.plan(x, 0, "2,2");
        is("all people", x.days(1), 2);
        Towns.plan(x, 0, "2,2");
        Towns.plan(x, 0, "3");
        is("in place of what is left", x.count(80), 1);
    }

    private static void tried() {
        DUE.part("promise 10");
        SecondTry x = Towns.town();
        x.kind(4, 5, 0, 1);
        x.kind(5, 1, 0, 1);
        is("n 0", x.tried(0, 0), SecondTry.NONE);
        is("n 61", x.tried(61, 0), SecondTry.NONE);
        is("what 6", x.tried(1, 6), SecondTry.NONE);
        is("what below 0", x.tried(1, -1), SecondTry.NONE);
        is("what 9", x.tried(1, 9), SecondTry.NONE);
        is("what 13: not told", x.tried(1, 13), SecondTry.NONE);
        is("what 18", x.tried(1, 18), SecondTry.NONE);
        Towns.plan(x, 2, "(4)3,5,5");
        Towns.plan(x, 1, "0,0,3,3,0,5,5,0");
        int[][] wants = {{8, 13, 13}, {3, 5, 5}, {0, 0, 0}, {2, 2, 2}, {4, 4, 4}, {22, 31, 31}};
        int[] lengths = {1, 2, 60};
        for (int what = 0; what <= 5; what++) {
            for (int i = 0; i < 3; i++) {
                is("tried(" + lengths[i] + ", " + what + ")", x.tried(lengths[i], what), wants[what][i]);
            }
        }
        is("steps left of 1", x.tried(1, 11), 2);
        is("steps left of 2", x.tried(1, 12), 3);
        is("steps left of 2", x.tried(2, 12), 0);
        is("steps left of 0", x.tried(1, 10), 0);
        is("nothing is changed", x.count(0), 0);
        is("nothing is changed", x.count(82), 5);
        is("nothing is changed", x.count(92), 0);
        is("it goes by as it was tried", x.days(2), 5);
        is("it stalls no more", x.tried(60, 2), -2);
        Towns.plan(x, 2, "2,2,5,5");
        Towns.plan(x, 1, "5");
        is("on a later day", x.tried(9, 2), 2);
        is("on a later day", x.tried(9, 3), 2);
        is("on a later day", x.tried(9, 4), 5);
    }

    private static void has() {
        DUE.part("promise 11");
        SecondTry x = townWithLaw("v2(w=0);v0(1=1);f4(k=1);a(k=0&j=1)");
        is("not told", x.has(3, 0, 0), SecondTry.NONE);
        is("not told", x.has(0, 4, 0), SecondTry.NONE);
        is("what 6", x.has(0, 0, 6), SecondTry.NONE);
        is("what below 0", x.has(0, 0, -1), SecondTry.NONE);
        is("no last try", x.has(0, 0, 2), -2);
        is("v", x.has(0, 0, 4), 2);
        is("would not count", x.has(0, 0, 5), 0);
        x.tries(0, 1, -1);
        x.tries(0, 1, -1);
        is("old by 1", x.has(0, 0, 3), 2);
        is("would count", x.has(0, 0, 5), 1);
        x.days(4);
        is("behind what it forgets", x.has(0, 0, 3), 0);
        is("would not count", x.has(0, 0, 5), 0);
        is("tries of 1 are there", x.has(0, 1, 0), 2);
        is("day of the last one", x.has(0, 1, 2), 0);
        x.tries(0, 0, -1);
        x.tries(0, 0, -1);
        is("would count", x.tries(0, 0, -1), 1);
        is("v now", x.has(0, 0, 4), 0);
        is("counted", x.has(0, 0, 1), 1);
        is("tries", x.has(0, 0, 0), 3);
        is("asking is no try", x.has(0, 0, 0), 3);
        x.kind(4, 1, 0, 2);
        is("needs 1, which did not count", x.has(0, 4, 5), 0);
    }

    private static void alike() {
        DUE.part("promise 12");
        SecondTry x = townWithLaw("a(k=1&j=2);a(k=3&d=1)");
        is("not told", x.alike(4, 0), SecondTry.NONE);
        is("not told", x.alike(0, 4), SecondTry.NONE);
        is("no such one", x.alike(0, -1), SecondTry.NONE);
        is("itself", x.alike(0, 0), 1);
        is("1 finds 2", x.alike(1, 2), 1);
        is("2 finds not 1", x.alike(2, 1), 0);
        is("another clause, another day", x.alike(3, 0), 0);
        x.days(1);
        is("another clause", x.alike(3, 0), 1);
        is("without an a none", Towns.town().alike(0, 1), 0);
        x = townWithLaw("v3(1=1)");
        is("without an a none", x.alike(0, 1), 0);
    }

    private static void cost() {
        DUE.part("promise 13");
        SecondTry x = townWithLaw("c1000(k=0);c0-1(k=1);c5*q+p(1=1)");
        is("of itself", x.cost(0, 0, 0), SecondTry.NONE);
        is("not told", x.cost(3, 0, 0), SecondTry.NONE);
        is("not told", x.cost(0, 0, 3), SecondTry.NONE);
        is("not told", x.cost(0, 4, 1), SecondTry.NONE);
        is("nobody", x.cost(0, 0, -1), SecondTry.NONE);
        is("999 at most", x.cost(0, 0, 1), 999);
        is("0 at least", x.cost(0, 1, 1), 0);
        is("by seller and buyer", x.cost(1, 2, 2), 11);
        is("nothing is bought", x.count(71), 100);
    }

    private static void soonest() {
        DUE.part("promise 14");
        SecondTry x = Towns.town();
        x.kind(4, 5, 0, 1);
        x.kind(5, 6, 0, 16);
        is("not told person", x.soonest(3, 1, 0, 0, 0), SecondTry.NONE);
        is("no kinds", x.soonest(0, 0, 0, 0, 0), SecondTry.NONE);
        is("five kinds", x.soonest(0, 31, 0, 0, 0), SecondTry.NONE);
        is("not told kinds", x.soonest(0, 65, 0, 0, 0), SecondTry.NONE);
        is("kinds below 0", x.soonest(0, -1, 0, 0, 0), SecondTry.NONE);
        is("k not of these", x.soonest(0, 1, 1, 0, 0), SecondTry.NONE);
        is("no such k", x.soonest(0, 1, 32, 0, 0), SecondTry.NONE);
        is("goes below 0", x.soonest(0, 1, 0, -1, 0), SecondTry.NONE);
        is("goes 4", x.soonest(0, 1, 0, 4, 0), SecondTry.NONE);
        is("what 2", x.soonest(0, 1, 0, 0, 2), SecondTry.NONE);
        is("twice", x.soonest(0, 4, 2, 0, 0), 6);
        is("two tries", x.soonest(0, 4, 2, 0, 1), 2);
        is("with a go", x.soonest(0, 4, 2, 1, 0), 3);
        is("one try", x.soonest(0, 4, 2, 3, 1), 1);
        is("needs another kind", x.soonest(0, 16, 4, 0, 0), -2);
        is("needs another kind", x.soonest(0, 16, 4, 3, 1), -2);
        is("with that one", x.soonest(0, 17, 4, 0, 0), 12);
        is("needs through needs", x.soonest(0, 49, 5, 0, 0), 24);
        is("needs through needs", x.soonest(0, 49, 5, 0, 1), 6);
        is("the dearest are bought", x.soonest(0, 49, 5, 1, 0), 18);
        is("the dearest are bought", x.soonest(0, 49, 5, 2, 0), 13);
        is("all are bought", x.soonest(0, 49, 5, 3, 0), 12);
        is("all are bought", x.soonest(0, 49, 5, 3, 1), 3);
        is("needs of 5 alone", x.soonest(0, 33, 5, 3, 0), -2);
        x.tries(0, 0, -1);
        x.tries(0, 0, -1);
        is("what has counted is there", x.soonest(0, 48, 5, 0, 0), 22);
        is("once more than now", x.soonest(0, 1, 0, 0, 0), 1);
    }

    private static void soonestByLaw() {
        DUE.part("promise 14, by the law");
        is("2 void: the third counts", townWithLaw("v2(1=1)").soonest(0, 4, 2, 0, 0), 9);
        is("3 void: at most 3 tries", townWithLaw("v3(1=1)").soonest(0, 4, 2, 0, 0), -2);
        is("goes are among the 3", townWithLaw("v3(1=1)").soonest(0, 4, 2, 3, 0), -2);
        is("kinds alike help", townWithLaw("v3(1=1);a(1=1)").soonest(0, 5, 2, 0, 0), 6);
        is("so many tries", townWithLaw("v3(1=1);a(1=1)").soonest(0, 5, 2, 0, 1), 4);
        is("fewest tries in so many hours", townWithLaw("v2(1=1);a(1=1)").soonest(0, 7, 2, 0, 1), 3);
        is("all of its kinds are old", withOld("v2(1=1);a(1=1)").soonest(0, 4, 2, 0, 0), 3);
        is("nothing is forgotten", withOld("v2(1=1);a(1=1);f1(1=1)").soonest(0, 4, 2, 0, 0), 3);
        is("o grows by goes", townWithLaw("v9(o<2);v0(1=1)").soonest(0, 4, 2, 2, 0), 3);
        is("o grows by tries", townWithLaw("v9(o<2);v0(1=1)").soonest(0, 4, 2, 0, 0), 9);
        is("a go between two tries", townWithLaw("v0(k=0&n=0);v9(k=0);v9(k=1&n<2);v0(k=1)").soonest(0, 2, 1, 2, 0), 2);
        is("n counts goes", townWithLaw("v0(n=1);v9(1=1)").soonest(0, 4, 2, 1, 0), 3);
        is("w of a kind", withNeeds("v0(k=0&w=0);v9(k=0&w>0);v0(k=4)").soonest(0, 17, 4, 0, 0), 6);
        is("a go first would spoil it", withNeeds("v0(k=0&n=0);v9(k=0);v2(k=4)").soonest(0, 17, 4, 2, 0), 6);
        SecondTry x = townWithLaw("v0(d=3);v9(1=1)");
        is("another day", x.soonest(0, 4, 2, 0, 0), -2);
        x.days(3);
        is("on the day as it is", x.soonest(0, 4, 2, 0, 0), 3);
        is("with nobody", townWithLaw("v0(q=8);v9(1=1)").soonest(0, 4, 2, 0, 0), 3);
    }

    private static SecondTry withOld(String text) {
        SecondTry x = townWithLaw(text);
        x.tries(0, 3, -1);
        x.tries(0, 3, -1);
        x.days(2);
        return x;
    }

    private static SecondTry withNeeds(String text) {
        SecondTry x = townWithLaw(text);
        x.kind(4, 5, 0, 1);
        return x;
    }

    private static void cheapest() {
        DUE.part("promise 15");
        SecondTry x = townWithLaw("c3*q+k(1=1);v2(1=1)");
        is("not told person", x.cheapest(3, 1, 0, 0, 0), SecondTry.NONE);
        is("no kinds", x.cheapest(0, 0, 0, 0, 0), SecondTry.NONE);
        is("not told kinds", x.cheapest(0, 17, 0, 0, 0), SecondTry.NONE);
        is("k not of these", x.cheapest(0, 1, 1, 0, 0), SecondTry.NONE);
        is("hours below 0", x.cheapest(0, 1, 0, -1, 0), SecondTry.NONE);
        is("hours 201", x.cheapest(0, 1, 0, 201, 0), SecondTry.NONE);
        is("what 2", x.cheapest(0, 1, 0, 0, 2), SecondTry.NONE);
        is("nothing bought", x.cheapest(0, 4, 2, 200, 0), 0);
        is("its hours", x.cheapest(0, 4, 2, 200, 1), 9);
        is("none has one", x.cheapest(0, 4, 2, 8, 0), -2);
        x.tries(2, 2, -1);
        is("one of 2", x.cheapest(0, 4, 2, 8, 0), 8);
        is("its hours", x.cheapest(0, 4, 2, 8, 1), 6);
        is("two of 2, who has one", x.cheapest(0, 4, 2, 5, 0), 16);
        is("its hours", x.cheapest(0, 4, 2, 5, 1), 3);
        x.tries(1, 2, -1);
        is("1 asks less", x.cheapest(0, 4, 2, 5, 0), 10);
        is("its own are not bought", x.cheapest(1, 4, 2, 5, 0), 8);
        is("too few hours", x.cheapest(0, 4, 2, 2, 0), -2);
        x.person(0, 0);
        is("its coins are not looked at", x.cheapest(0, 4, 2, 3, 0), 10);
        x = withNeeds("c3(1=1);v3(k=4);v1(1=1);a(1=1)");
        for (int k = 0; k < 5; k++) {
            x.tries(1, k, -1);
        }
        is("three goes together", x.cheapest(0, 17, 4, 6, 0), 6);
        is("three goes together", x.cheapest(0, 17, 4, 6, 1), 6);
        is("goes of none", x.cheapest(0, 17, 4, 9, 0), 0);
        is("goes of none", x.cheapest(0, 17, 4, 9, 1), 8);
        x = withNeeds("c3(1=1);v2(k=4);v1(1=1)");
        x.tries(1, 0, -1);
        x.tries(1, 4, -1);
        is("three goes together", x.cheapest(0, 17, 4, 6, 0), 9);
        is("not four", x.cheapest(0, 17, 4, 5, 0), -2);
        is("of like coins the fewest hours", x.cheapest(0, 17, 4, 16, 0), 3);
        is("of like coins the fewest hours", x.cheapest(0, 17, 4, 16, 1), 12);
        x = withNeeds("c3(1=1);v0(k=0&n=0);v9(k=0);v0(1=1)");
        x.tries(1, 0, -1);
        is("goes come ahead of all tries", x.cheapest(0, 17, 4, 200, 1), 6);
        is("c is asked now", townWithDearerGoes().cheapest(0, 4, 2, 3, 0), 4);
    }

    /** A second go would cost more by n, but c is asked as it is now. */
    private static SecondTry townWithDearerGoes() {
        SecondTry x = townWithLaw("c2+n*50(1=1);v2(1=1)");
        x.tries(1, 2, -1);
        return x;
    }

    private static void loophole() {
        DUE.part("promise 16");
        SecondTry x = new SecondTry();
        x.kind(0, 1, 6, 0);
        x.kind(1, 1, 12, 0);
        x.kind(2, 1, 0, 0);
        is("not told", x.loophole(8, 0, 0), SecondTry.NONE);
        is("not told", x.loophole(0, 8, 0), SecondTry.NONE);
        is("below 0", x.loophole(-1, 0, 0), SecondTry.NONE);
        is("of both", x.loophole(3, 1, 0), SecondTry.NONE);
        is("what 2", x.loophole(1, 2, 2), SecondTry.NONE);
        is("without a", x.loophole(1, 0, 0), -2);
        is("without a", x.loophole(1, 0, 1), 0);
        is("to none", x.loophole(0, 7, 0), 0);
        is("to none", x.loophole(0, 7, 1), 256);
        Towns.law(x, "a(m>0)");
        is("the least of one mark", x.loophole(1, 0, 0), 2);
        is("one mark for both", x.loophole(3, 0, 0), 4);
        is("1 and not 0", x.loophole(2, 1, 0), 8);
        is("1 and not 0", x.loophole(2, 1, 1), 32);
        is("none to 2", x.loophole(4, 0, 0), -2);
        Towns.law(x, "a(m>1)");
        is("fewest marks, not the least number", x.loophole(3, 0, 0), 14);
        Towns.law(x, "a(x=7|x=64|x=32)");
        is("fewest marks, then the least number", x.loophole(1, 0, 0), 32);
        is("how many", x.loophole(1, 0, 1), 3);
        Towns.law(x, "a(k=12&h=1&x=255-d&y=12&j=1)");
        is("a kind 12 of one hour", x.loophole(2, 5, 0), 255);
        is("how many", x.loophole(2, 5, 1), 1);
        x.days(1);
        is("on the day", x.loophole(2, 5, 0), 254);
    }

    private static void jobs() {
        DUE.part("promise 17");
        SecondTry x = Towns.town();
        is("no bytes", x.jobs(1, 1, 10), SecondTry.NONE);
        x.feed(0, 0, 0, 0, 0);
        is("n 0", x.jobs(0, 1, 10), SecondTry.NONE);
        is("n 9", x.jobs(9, 1, 10), SecondTry.NONE);
        is("the tape stays", x.count(4), 20);
        is("no such people", x.jobs(1, 8, 10), -4);
        is("the tape is empty", x.count(4), 0);
        is("nobody", Towns.jobs(x, 0, 10, 0), -4);
        is("people below 0", Towns.jobs(x, -1, 10, 0), -4);
        is("no such kind", Towns.jobs(x, 1, 10, 4), -2);
        is("a byte above", Towns.jobs(x, 1, 10, 0, 255), -2);
        is("no such place", Towns.jobs(x, 1, 2, 0, 0), -4);
        is("no such place", Towns.jobs(x, 1, -1, 0, 0), -4);
        is("what 11", Towns.jobs(x, 1, 11, 0, 0), -4);
        is("one job", Towns.jobs(x, 1, 10, 3), 8);
        is("twice the same", Towns.jobs(x, 1, 10, 3, 3), 12);
        is("among two", Towns.jobs(x, 3, 10, 3, 3), 8);
        is("the least row", Towns.jobs(x, 3, 0, 3, 3), 0);
        is("the least row", Towns.jobs(x, 3, 1, 3, 3), 1);
        is("the longest takes least", Towns.jobs(x, 3, 10, 3, 0, 1, 0), 8);
        is("the longest takes least", Towns.jobs(x, 3, 0, 3, 0, 1, 0), 0);
        is("the others by 1", Towns.jobs(x, 3, 1, 3, 0, 1, 0), 1);
        is("the others by 1", Towns.jobs(x, 3, 2, 3, 0, 1, 0), 1);
        is("three workers", Towns.jobs(x, 7, 10, 3, 3, 3), 8);
        is("eight jobs", Towns.jobs(x, 7, 10, 0, 1, 2, 3, 0, 1, 2, 3), 12);
        x.person(3, 0);
        is("four people", Towns.jobs(x, 15, 10, 0), -4);
        is("nothing is changed", x.count(90), 0);
        x.kind(4, 1, 0, 1);
        is("needs what it has done", Towns.jobs(x, 1, 10, 0, 4), 4);
        is("needs what it does later", Towns.jobs(x, 1, 10, 4, 0), -3);
        is("needs what another does", Towns.jobs(x, 3, 10, 4, 0), -3);
        is("both by one", Towns.jobs(x, 3, 0, 0, 4), 0);
        is("both by one", Towns.jobs(x, 3, 1, 0, 4), 0);
        is("no such kind, no such people", Towns.jobs(x, 0, 10, 5), -2);
        x = townWithLaw("v19(k=0);v20(k=1)");
        is("void 19 times", Towns.jobs(x, 1, 10, 0), 20);
        is("void 20 times", Towns.jobs(x, 1, 10, 1), -3);
        is("then it counts at once", Towns.jobs(x, 1, 10, 0, 0), 21);
        x = townWithLaw("v1-p(k=0);v9(o<3);v0(1=1)");
        is("v by the person", Towns.jobs(x, 3, 0, 0), 1);
        is("o by its own tries alone", Towns.jobs(x, 3, 10, 3, 3), 16);
        is("o by its own tries alone", Towns.jobs(x, 1, 10, 3, 3), 20);
        x = townWithLaw("f1(1=1);a(1=1)");
        x.tries(0, 0, -1);
        x.days(9);
        is("nothing is forgotten", Towns.jobs(x, 1, 10, 3), 4);
        x = townWithLaw("v9(w=1);v1(1=1)");
        is("w as it is then", Towns.jobs(x, 1, 10, 0, 0), 10);
    }

    private static void rivals() {
        DUE.part("promise 18");
        SecondTry x = new SecondTry();
        is("lost below 0", x.rivals(-1, 0, 0), SecondTry.NONE);
        is("lost 1000", x.rivals(1000, 0, 0), SecondTry.NONE);
        is("won below 0", x.rivals(0, -1, 0), SecondTry.NONE);
        is("won 1000", x.rivals(0, 1000, 0), SecondTry.NONE);
        is("what 2", x.rivals(0, 0, 2), SecondTry.NONE);
        is("what below 0", x.rivals(0, 0, -1), SecondTry.NONE);
        is("nothing lost or won: but not both wait", x.rivals(0, 0, 0), 3);
        is("the lowest", x.rivals(0, 0, 1), 1);
        is("half of 1 is 0", x.rivals(1, 0, 0), 4);
        is("the lowest", x.rivals(1, 0, 1), 0);
        is("nothing lost", x.rivals(0, 5, 0), 2);
        is("the lowest", x.rivals(0, 5, 1), 1);
        is("1 lost", x.rivals(1, 1, 0), 3);
        is("2 lost: both wait", x.rivals(2, 0, 0), 1);
        is("999 each", x.rivals(999, 999, 0), 1);
    }

    private static void histories() {
        DUE.part("promise 19");
        SecondTry x = townWithLaw("a(k=0&j=1)");
        int[] one = {2};
        int[] two = {0, 1};
        is("no bytes", x.histories(1, 0, 0, 0), SecondTry.NONE);
        x.feed(0, 0, 0, 0, 0);
        is("m 0", x.histories(0, 0, 0, 0), SecondTry.NONE);
        is("m 5", x.histories(5, 0, 0, 0), SecondTry.NONE);
        is("n below 0", x.histories(1, -1, 0, 0), SecondTry.NONE);
        is("n 11", x.histories(1, 11, 0, 0), SecondTry.NONE);
        is("v below 0", x.histories(1, 0, -1, 0), SecondTry.NONE);
        is("v 10", x.histories(1, 0, 10, 0), SecondTry.NONE);
        is("what 3", x.histories(1, 0, 0, 3), SecondTry.NONE);
        is("21 bytes", x.histories(1, 10, 0, 0), SecondTry.NONE);
        is("the tape stays", x.count(4), 20);
        is("not told", Towns.histories(x, new int[] {4}, 0, 0), 4);
        is("not told", Towns.histories(x, new int[] {4}, 0, 0), -3);
        is("the tape is empty", x.count(4), 0);
        is("one twice", Towns.histories(x, new int[] {1, 1}, 0, 0), -3);
        is("no such place", Towns.histories(x, one, 1, 0, 1, 1), -3);
        is("neither 1 nor 0", Towns.histories(x, one, 1, 0, 0, 2), -3);
        is("all fit", Towns.histories(x, one, 2, 0), 4);
        is("2 or 3", Towns.histories(x, one, 2, 0, 0, 1), 2);
        is("the first", Towns.histories(x, one, 2, 1, 0, 1), 2);
        is("0 or 1", Towns.histories(x, one, 2, 0, 0, 0), 2);
        is("just 1", Towns.histories(x, one, 2, 1, 0, 0, 0, 1), 1);
        is("none", Towns.histories(x, one, 2, 0, 0, 1, 0, 0), 0);
        is("no first", Towns.histories(x, one, 2, 1, 0, 1, 0, 0), -2);
        is("ten tries", Towns.histories(x, one, 9, 0, 0, 0, 0, 0, 0, 0, 0, 0, 0, 0, 0, 0, 0, 0, 0, 1, 0, 1, 0, 1), 1);
        is("0 and 1 are old for 0", Towns.histories(x, two, 3, 0, 0, 1), 10);
        is("the first place is highest", Towns.histories(x, two, 3, 1, 0, 1), 3);
        is("1 alone is old for 1", Towns.histories(x, two, 3, 0, 1, 1), 4);
        is("a try of 0 is not old for 1", Towns.histories(x, two, 1, 0, 0, 0, 1, 0), 1);
        is("nor told ones: a try of 1 is old for 0", Towns.histories(x, two, 1, 0, 1, 0, 0, 1), 4);
        is("the one that parts best", Towns.histories(x, two, 3, 2), 0);
        is("the one that parts best", Towns.histories(x, two, 2, 2), 1);
        is("of like ones the lowest", Towns.histories(x, new int[] {2, 3}, 2, 2), 0);
        is("the next one tells", Towns.histories(x, new int[] {2, 3}, 2, 2, 0, 1), 1);
        is("four and four part better than two and six", Towns.histories(x, new int[] {2, 3}, 3, 2, 1, 0, 1, 0), 1);
        is("the next one of three", Towns.histories(x, new int[] {2, 3, 1}, 2, 2, 0, 1, 1, 1), 2);
        x.kind(4, 1, 0, 1);
        is("no needs", Towns.histories(x, new int[] {4}, 0, 0, 0, 1), 4);
        is("nothing is changed", x.count(90), 0);
    }

    private static void game() {
        DUE.part("promise 20");
        SecondTry x = new SecondTry();
        is("heap below 0", x.game(-1, 0, 0, true, true, 0), SecondTry.NONE);
        is("heap 8", x.game(0, 8, 0, true, true, 0), SecondTry.NONE);
        is("heap 8", x.game(0, 0, 8, true, true, 0), SecondTry.NONE);
        is("what 2", x.game(0, 0, 0, true, true, 2), SecondTry.NONE);
        is("what below 0", x.game(0, 0, 0, true, true, -1), SecondTry.NONE);
        is("nothing lies there", x.game(0, 0, 0, false, false, 0), 0);
        is("nothing lies there", x.game(0, 0, 0, false, false, 1), -2);
        is("4 loses", x.game(4, 0, 0, true, true, 0), 0);
        is("take 3 of 7", x.game(7, 0, 0, true, true, 1), 3);
        is("take of the least heap", x.game(3, 1, 0, true, true, 1), 2);
        is("like heaps lose", x.game(5, 5, 0, true, true, 0), 0);
        is("7 and 3 lose", x.game(7, 3, 0, true, true, 0), 0);
        is("1, 2, 3 lose", x.game(1, 2, 3, true, true, 0), 0);
        is("a void move leaves the other one what loses", x.game(0, 4, 0, false, true, 0), 1);
        is("a void move passes the turn", x.game(0, 5, 0, false, true, 0), 0);
        is("two void moves", x.game(0, 5, 0, false, false, 0), 1);
        is("the least void move that wins", x.game(0, 5, 0, false, false, 1), 11);
        is("two void moves of 4", x.game(0, 4, 0, false, false, 0), 0);
        is("two void moves of 4", x.game(0, 4, 0, false, false, 1), -2);
        is("who takes leaves what the void move loses", x.game(2, 0, 0, true, false, 1), 1);
        is("or nothing", x.game(1, 0, 0, true, false, 1), 1);
        for (int heaps = 0; heaps < 512; heaps++) {
            int[] row = {heaps & 7, heaps >> 3 & 7, heaps >> 6};
            for (int flags = 0; flags < 4; flags++) {
                boolean moved = (flags & 1) == 1;
                boolean other = (flags & 2) == 2;
                String call = "game(" + row[0] + ", " + row[1] + ", " + row[2] + ", " + moved + ", " + other + ")";
                is(call, x.game(row[0], row[1], row[2], moved, other, 1), Model.bestMove(row, moved, other));
                is(call, x.game(row[0], row[1], row[2], moved, other, 0), Model.wins(row, moved, other) ? 1 : 0);
            }
        }
    }

    private static void court() {
        DUE.part("promise 21");
        SecondTry x = new SecondTry();
        is("n 0", x.court(0, 0, 0, 0, 0, 0), SecondTry.NONE);
        is("n 10", x.court(10, 0, 0, 0, 0, 0), SecondTry.NONE);
        is("first above", x.court(2, 4, 0, 0, 0, 0), SecondTry.NONE);
        is("greater above", x.court(2, 0, 4, 0, 0, 0), SecondTry.NONE);
        is("others above", x.court(2, 0, 0, 4, 0, 0), SecondTry.NONE);
        is("others below 0", x.court(2, 0, 0, -1, 0, 0), SecondTry.NONE);
        is("least below 0", x.court(2, 0, 0, 0, -1, 0), SecondTry.NONE);
        is("least above n", x.court(2, 0, 0, 0, 3, 0), SecondTry.NONE);
        is("what 3", x.court(2, 0, 0, 0, 0, 3), SecondTry.NONE);
        is("all of nine", x.court(9, 511, 511, 0, 9, 0), 9);
        is("one juror", x.court(1, 0, 1, 0, 0, 1), 1);
        is("one juror changed", x.court(1, 0, 1, 0, 0, 2), 1);
        is("halved: the guilty are the greater part", x.court(4, 3, 3, 0, 0, 0), 2);
        is("halved: not guilty", x.court(4, 3, 3, 0, 0, 1), 0);
        is("halved: others become guilty", x.court(4, 3, 3, 12, 0, 0), 4);
        is("the greater part thought not guilty", x.court(5, 3, 28, 0, 2, 0), 3);
        is("guilty then", x.court(5, 3, 28, 0, 2, 1), 1);
        is("all changed", x.court(5, 3, 28, 0, 2, 2), 5);
        is("too few thought guilty", x.court(5, 3, 28, 0, 3, 2), 0);
        is("too few thought guilty", x.court(5, 3, 28, 0, 3, 0), 2);
        is("bits of others do not matter", x.court(3, 3, 4, 3, 0, 0), 0);
    }

    private static void keepAndUndo() {
        DUE.part("promises 22, 23");
        SecondTry x = Towns.town();
        is("none was kept", x.undo(), false);
        x.tries(0, 0, -1);
        Towns.plan(x, 0, "3,3,3,3,3");
        x.days(1);
        is("keep", x.keep(), 1);
        x.days(1);
        x.person(3, 5);
        x.tries(3, 0, -1);
        x.tries(0, 0, -1);
        x.person(0, 7);
        x.kind(4, 2, 0, 0);
        x.tries(0, 4, -1);
        Towns.plan(x, 1, "0");
        Towns.law(x, "v7(1=1)");
        x.feed(0, 0, 0, 0, 0);
        is("undo", x.undo(), true);
        is("the day", x.count(0), 1);
        is("people", x.count(2), 7);
        is("coins", x.count(70), 100);
        is("steps left", x.count(80), 2);
        is("no plan", x.count(81), 0);
        is("tries", x.has(0, 0, 0), 1);
        is("tries of a new kind", x.has(0, 4, 0), 0);
        is("day of the last one", x.has(0, 3, 2), 0);
        is("counted", x.count(100), 2);
        is("kinds stay", x.count(1), 31);
        is("the law stays", x.count(3), 1);
        is("the tape stays", x.count(4), 20);
        x.person(3, 1);
        is("a new person has none", x.has(3, 0, 0), 0);
        x.days(1);
        is("undo again", x.undo(), true);
        is("the day", x.count(0), 1);
        is("steps left", x.count(80), 2);
        x.days(2);
        is("keep again", x.keep(), 3);
        is("undo", x.undo(), true);
        is("as kept last", x.count(0), 3);
    }

    private static void check() {
        DUE.part("promise 24");
        SecondTry x = Towns.town();
        is("no bytes", x.check(0, 1), -2);
        is("no numbers", x.check(0, 0), SecondTry.NONE);
        x.feed(0, 0, 0, 0, 0);
        is("not told", x.check(3, 1), -2);
        is("n below 0", x.check(0, -1), -2);
        is("n 13", x.check(0, 13), -2);
        is("n above the tape", x.check(0, 6), -2);
        is("the tape stays", x.count(4), 20);
        is("kinds that are not told, too", x.check(0, 5), SecondTry.NONE);
        is("the tape is empty", x.count(4), 0);
        x.feed(0, 0, 0, 0, 0);
        is("no numbers", x.check(0, 0), SecondTry.NONE);
        is("the tape is empty", x.count(4), 0);
        x.tries(0, 1, -1);
        x.feed(0, 0, 0, 0, 0);
        is("the first that is not so", x.check(0, 5), 1);
        x.feed(0, 1, 1, 1, 0);
        is("the first that is not so", x.check(0, 5), 2);
        x.feed(0, 1, 0, 0, 7);
        is("a kind that is not told has none", x.check(0, 5), 4);
        x.feed(0, 1, 0, 0, 7);
        is("the first four", x.check(0, 4), SecondTry.NONE);
        x.feed(Integer.MIN_VALUE, 1, 0, 0, 0);
        is("four bytes", x.check(0, 1), 0);
        x.feed(1 << 16, 1, 0, 0, 0);
        is("four bytes", x.check(0, 1), 0);
        x.feed(1 << 8, 1, 0, 0, 0);
        is("four bytes", x.check(0, 1), 0);
        x.feed(0, 1, 0, 0, 0);
        x.feed(0, 0, 0, 0, 0);
        x.feed(0, 0, 3, 0, 0);
        is("twelve right", x.check(0, 12), SecondTry.NONE);
    }

    private static void count() {
        DUE.part("promise 25");
        SecondTry x = Towns.town();
        x.kind(11, 7, 130, 5);
        int[] gone = {-1, 5, 9, 14, 22, 29, 34, 42, 49, 54, 62, 69, 73, 78, 79, 83, 88, 93, 98, 103, 108, 1000,
            Integer.MIN_VALUE, Integer.MAX_VALUE};
        for (int what : gone) {
            is("count(" + what + ")", x.count(what), SecondTry.NONE);
        }
        is("hours", x.count(21), 7);
        is("marks", x.count(41), 130);
        is("needs", x.count(61), 5);
        is("kinds", x.count(1), 15 | 1 << 11);
        is("people", x.count(2), 7);
        for (int i = 0; i < 3; i++) {
            x.tries(1, i, -1);
            x.tries(1, i, -1);
        }
        is("all tries", x.count(91), 6);
        is("all that counted", x.count(101), 3);
        is("coins", x.count(71), 100);
        is("steps left", x.count(81), 0);
    }

    /** Days end at 9999, tries and counted ones at 999. */
    private static void bounds() {
        DUE.part("bounds");
        SecondTry x = Towns.town();
        for (int i = 0; i < 166; i++) {
            x.days(60);
        }
        is("the day", x.count(0), 9960);
        Towns.plan(x, 0, "(3,3,3)9");
        is("as many days as can", x.tried(60, 0), 27);
        x.days(38);
        is("the day", x.count(0), 9998);
        Towns.plan(x, 0, "(3,3,3)9");
        is("one day can", x.tried(60, 0), 3);
        is("one day goes by", x.days(60), 3);
        is("the last day", x.count(0), 9999);
        is("none goes by", x.days(1), 0);
        is("no try", x.tried(60, 0), 0);
        is("steps left", x.count(80), 24);
        is("tries go on", x.tries(0, 3, -1), 1);
        is("of the last day", x.has(0, 3, 2), 9999);
        x = Towns.town();
        for (int i = 0; i < 25; i++) {
            Towns.plan(x, 0, "((0)5)8");
            Towns.plan(x, 1, "((0)5)8");
            x.days(4);
        }
        is("999 tries", x.has(0, 0, 0), 999);
        is("999 counted", x.has(0, 0, 1), 999);
        is("it counts", x.tries(0, 0, -1), 1);
        is("999 counted", x.has(0, 0, 1), 999);
        is("a first go more", x.buys(0, 0, 1), 0);
        is("999 tries", x.has(0, 0, 0), 999);
        is("998 are left", x.has(1, 0, 0), 998);
        is("soonest", x.soonest(0, 1, 0, 0, 0), 1);
        x.feed(999, 0, 0, 0, 0);
        is("check of 999", x.check(0, 1), SecondTry.NONE);
        x.feed(999 + 256, 0, 0, 0, 0);
        is("check of more", x.check(0, 1), 0);
        x = townWithLaw("f2000(k=0)");
        x.tries(0, 0, -1);
        for (int i = 0; i < 16; i++) {
            x.days(60);
        }
        x.days(38);
        is("behind 998 days", x.has(0, 0, 3), 1);
        x.days(1);
        is("behind 999 days: f is 999 at most", x.has(0, 0, 3), 0);
    }
}
