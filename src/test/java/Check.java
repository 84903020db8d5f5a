import java.math.BigInteger;

/** Counts what is not as due, and tells it. */
final class Check {
    private static final int TOLD_AT_MOST = 10;

    private final String section;
    private int checks = 0;
    private int wrong = 0;
    private int told = 0;

    /** The section of the document whose sentences are checked. */
    Check(String section) {
        this.section = section;
    }

    /** One sentence of the document, quoted, with a test of its own; a test that checks nothing fails. */
    void sentence(String quoted, Runnable test) {
        int checksBefore = checks;
        int wrongBefore = wrong;
        told = 0;
        try {
            test.run();
        } catch (RuntimeException e) {
            tell("the test was ended by " + e);
        }
        if (checks == checksBefore) {
            tell("nothing was checked");
        }
        System.out.println((wrong == wrongBefore ? "  holds: " : "  BROKEN: ") + section + ": " + quoted);
    }

    void same(String what, Object got, Object due) {
        checks++;
        if (!got.equals(due)) {
            tell(what + " answered " + got + ", due is " + due);
        }
    }

    void number(String what, BigInteger got, BigInteger due) {
        checks++;
        if (!got.equals(due)) {
            tell(what + " is " + got.toString(16) + ", due is " + due.toString(16) + " (hexadecimal)");
        }
    }

    /** The argument is taken from 0 to below the bound, and refused on both sides, near and far. */
    void range(String what, int bound, CallWith call) {
        for (int n : new int[] {0, 1, bound - 2, bound - 1}) {
            accepted(what + " " + n, w -> call.on(w, n));
        }
        for (int n : new int[] {-1, -2, -bound, bound, bound + 1, 2 * bound - 1, 2 * bound, 256, 65536,
            Integer.MIN_VALUE, Integer.MIN_VALUE + 1, Integer.MAX_VALUE}) {
            refused(what + " " + n, w -> call.on(w, n));
        }
    }

    void accepted(String what, Call call) {
        same(what + ": what is thrown", thrown(Wide.filled(), call), "nothing");
    }

    /** The call must throw IllegalArgumentException itself and leave all registers as they were. */
    void refused(String what, Call call) {
        WideNumbers w = Wide.filled();
        refusedOn(w, what, call);
        for (int r = 0; r < Wide.REGISTERS; r++) {
            number(what + ": register " + r + " behind it", Wide.read(w, r), Wide.filling(r));
        }
    }

    void refusedOn(WideNumbers w, String what, Call call) {
        same(what + ": what is thrown", thrown(w, call), "java.lang.IllegalArgumentException");
    }

    private static String thrown(WideNumbers w, Call call) {
        try {
            call.on(w);
            return "nothing";
        } catch (RuntimeException e) {
            return e.getClass().getName();
        }
    }

    private void tell(String text) {
        wrong++;
        told++;
        if (told <= TOLD_AT_MOST) {
            System.out.println(text);
        }
    }

    /** Ends the program, with exit code 1 if anything was wrong. */
    void end() {
        if (wrong > 0 || checks == 0) {
            System.out.println(wrong + " of " + checks + " checks are not as due");
            System.exit(1);
        }
    }

    interface Call {
        void on(WideNumbers w);
    }

    interface CallWith {
        void on(WideNumbers w, int n);
    }
}
