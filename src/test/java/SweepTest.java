import java.lang.reflect.InvocationTargetException;
import java.lang.reflect.Method;

/**
 * Each argument of each call alone, through all numbers near its bounds and some far beyond, the others as they
 * should be: on SecondTry and on the plain model side by side, each time in a new town.
 */
public final class SweepTest {
    private static final Due DUE = new Due();
    private static final int[] FAR = {Integer.MIN_VALUE, Integer.MIN_VALUE + 1, -100000, -65536, -4096, -256, 511, 512, 513, 998, 999,
        1000, 1023, 1024, 2047, 2048, 4095, 4096, 4097, 8191, 65536, 99998, 99999, 100000, 1 << 29, 1 << 30, Integer.MAX_VALUE - 1,
        Integer.MAX_VALUE};
    private static final String LAW = "v2(k=1);v1(1=1);f4(k=2);c3+q(1=1);a(m>0)";

    private SecondTry x;
    private Model m;

    public static void main(String[] args) throws ReflectiveOperationException {
        for (Method call : SecondTry.class.getDeclaredMethods()) {
            if (java.lang.reflect.Modifier.isPublic(call.getModifiers())) {
                new SweepTest().sweep(call);
            }
        }
        DUE.end("SweepTest");
    }

    /** What a call is asked with, where it is not refused, and the bytes that lie on the tape for it. */
    private static int[] goodArguments(String name) {
        switch (name) {
            case "kind":
                return new int[] {9, 5, 77, 1 | 1 << 3};
            case "person":
                return new int[] {4, 12};
            case "feed":
                return new int[] {1, 2, 3, 4, 5};
            case "law":
                return new int[] {LAW.length()};
            case "plan":
                return new int[] {1, 7};
            case "tries":
            case "buys":
            case "cost":
                return new int[] {0, 1, 2};
            case "days":
                return new int[] {2};
            case "tried":
                return new int[] {3, 1};
            case "has":
                return new int[] {0, 1, 3};
            case "alike":
                return new int[] {0, 1};
            case "soonest":
                return new int[] {0, 1 | 2 | 8, 3, 1, 0};
            case "cheapest":
                return new int[] {0, 1 | 2 | 8, 3, 9, 0};
            case "loophole":
                return new int[] {1, 4, 0};
            case "jobs":
                return new int[] {3, 5, 10};
            case "rivals":
                return new int[] {1, 0, 0};
            case "histories":
                return new int[] {2, 2, 2, 0};
            case "game":
                return new int[] {3, 6, 1, 1, 0, 1};
            case "court":
                return new int[] {5, 19, 7, 24, 2, 0};
            case "check":
                return new int[] {0, 3};
            case "count":
                return new int[] {0};
            default:
                return new int[0];
        }
    }

    private static String tapeFor(String name) {
        switch (name) {
            case "law":
                return LAW;
            case "plan":
                return "(0,2)3,1&0";
            case "histories":
                return Towns.bytes(0, 1, 1, 0, 0, 1, 1, 1, 0, 0, 1, 1);
            case "check":
                return Towns.bytes(0, 0, 0, 3, 0, 0, 0, 1, 0, 0, 0, 0, 0, 0, 0, 0);
            default:
                return Towns.bytes(1, 0, 3, 2, 1, 0, 3, 2, 1);
        }
    }

    private void sweep(Method call) throws ReflectiveOperationException {
        DUE.part(call.getName());
        int[] good = goodArguments(call.getName());
        compareCall(call, good);
        for (int place = 0; place < good.length; place++) {
            int[] asked = good.clone();
            for (int value = -40; value <= 300; value++) {
                asked[place] = value;
                compareCall(call, asked);
            }
            for (int value : FAR) {
                asked[place] = value;
                compareCall(call, asked);
            }
            for (int bit = 0; bit < 32; bit++) {
                asked[place] = good[place] ^ 1 << bit;
                compareCall(call, asked);
            }
        }
    }

    private void compareCall(Method call, int[] asked) throws ReflectiveOperationException {
        Class<?>[] types = call.getParameterTypes();
        Object[] arguments = new Object[types.length];
        StringBuilder told = new StringBuilder(call.getName()).append('(');
        for (int i = 0; i < types.length; i++) {
            boolean isFlag = types[i] == boolean.class;
            arguments[i] = isFlag ? (Object) ((asked[i] & 1) == 1) : (Object) asked[i];
            told.append(i > 0 ? ", " : "").append(arguments[i]);
        }
        told.append(')');
        newTowns(tapeFor(call.getName()));
        long due = answer(Model.class.getDeclaredMethod(call.getName(), types), m, arguments);
        DUE.is(told.toString(), answer(call, x, arguments), due);
        compareTowns(told.toString());
    }

    private static long answer(Method call, Object town, Object[] arguments) throws ReflectiveOperationException {
        try {
            Object answer = call.invoke(town, arguments);
            return answer instanceof Boolean ? (Boolean) answer ? 1 : 0 : (Integer) answer;
        } catch (InvocationTargetException thrown) {
            System.out.println(call + " threw " + thrown.getCause());
            return Long.MIN_VALUE;
        }
    }

    private void newTowns(String tape) {
        x = new SecondTry();
        m = new Model();
        int[][] kinds = {{0, 2, 3, 0}, {1, 3, 1, 1}, {2, 1, 4, 0}, {3, 4, 8, 2}, {11, 12, 255, 0}};
        for (int[] kind : kinds) {
            x.kind(kind[0], kind[1], kind[2], kind[3]);
            m.kind(kind[0], kind[1], kind[2], kind[3]);
        }
        for (int p : new int[] {0, 1, 2, 7}) {
            x.person(p, 10 * p + 5);
            m.person(p, 10 * p + 5);
        }
        feed(LAW);
        x.law(LAW.length());
        m.law(LAW.length());
        feed("(0)4,1");
        x.plan(2, 6);
        m.plan(2, 6);
        x.days(1);
        m.days(1);
        int[][] tries = {{0, 0}, {0, 0}, {0, 0}, {0, 1}, {2, 1}, {2, 2}};
        for (int[] row : tries) {
            x.tries(row[0], row[1], -1);
            m.tries(row[0], row[1], -1);
        }
        feed(tape);
    }

    private void feed(String text) {
        for (int at = 0; at < text.length(); at += 20) {
            int[] w = Towns.words(text, at);
            x.feed(w[0], w[1], w[2], w[3], w[4]);
            m.feed(w[0], w[1], w[2], w[3], w[4]);
        }
    }

    private void compareTowns(String call) {
        for (int what = -1; what <= 108; what++) {
            DUE.is(call + ", then count(" + what + ")", x.count(what), m.count(what));
        }
        for (int p : new int[] {0, 1, 2, 7}) {
            for (int k = 0; k < 4; k++) {
                for (int what = 0; what <= 2; what++) {
                    DUE.is(call + ", then has(" + p + ", " + k + ", " + what + ")", x.has(p, k, what), m.has(p, k, what));
                }
            }
        }
    }
}
