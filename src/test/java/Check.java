import java.math.BigInteger;

/** Counts what is not as due, and tells it. */
final class Check {
    private int checks = 0;
    private int wrong = 0;

    void same(String what, Object got, Object due) {
        checks++;
        if (!got.equals(due)) {
            tell(what + " answered " + got + ", due is " + due);
        }
    }

    void number(String what, BigInteger got, BigInteger due) {
        checks++;
        if (!got.equals(due)) {
            tell(what + " is " + got.toString(16) + ", due is " + due.toString(16) + " (hexadecimal)");
        }
    }

    /** The call must throw IllegalArgumentException itself and leave all registers as they were. */
    void refused(String what, Call call) {
        checks++;
        WideNumbers w = Wide.filled();
        try {
            call.on(w);
            tell(what + " threw nothing");
        } catch (RuntimeException e) {
            if (e.getClass() != IllegalArgumentException.class) {
                tell(what + " threw " + e.getClass().getName());
            }
        }
        for (int r = 0; r < Wide.REGISTERS; r++) {
            number(what + ": register " + r + " behind it", Wide.read(w, r), Wide.filling(r));
        }
    }

    private void tell(String text) {
        wrong++;
        if (wrong <= 20) {
            System.out.println(text);
        }
    }

    /** Ends the program, with exit code 1 if anything was wrong. */
    void end() {
        if (wrong > 0 || checks == 0) {
            System.out.println(wrong + " of " + checks + " checks are not as due");
            System.exit(1);
        }
    }

    interface Call {
        void on(WideNumbers w);
    }
}
