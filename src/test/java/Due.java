import java.util.function.IntSupplier;

/** Counts answers that are as due, and prints those that are not. */
final class Due {
    private int right;
    private int wrong;
    private String part = "";

    void part(String name) {
        part = name;
    }

    void is(String call, long got, long want) {
        if (got == want) {
            right++;
        } else {
            wrong++;
            if (wrong <= 50) {
                System.out.println(part + ": " + call + " answered " + got + ", due is " + want);
            }
        }
    }

    void is(String call, boolean got, boolean want) {
        is(call, got ? 1 : 0, want ? 1 : 0);
    }

    /** A call that is refused: all is as it was, the tape too. */
    void refuses(SecondTry x, String call, int answer, IntSupplier asked) {
        String before = Towns.look(x);
        int tape = x.count(4);
        is(call, asked.getAsInt(), answer);
        is(call + " leaves the town as it was", Towns.look(x).equals(before), true);
        is(call + " leaves the tape", x.count(4), tape);
    }

    /** A call that takes its bytes and answers something: all else is as it was, the tape is empty. */
    void empties(SecondTry x, String call, int answer, IntSupplier asked) {
        String before = Towns.look(x);
        is(call, asked.getAsInt(), answer);
        is(call + " leaves the town as it was", Towns.look(x).equals(before), true);
        is(call + " empties the tape", x.count(4), 0);
    }

    int wrong() {
        return wrong;
    }

    void end(String test) {
        System.out.println(test + ": " + right + " answers as due, " + wrong + " not");
        if (wrong != 0) {
            System.exit(1);
        }
    }
}
