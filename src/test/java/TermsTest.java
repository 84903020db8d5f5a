import java.math.BigInteger;

/** The sections "What it is" and "Terms", which hold for all promises. */
final class TermsTest {
    private static final int CALLS = 512;

    private final Check check = new Check("terms");

    public static void main(String[] args) {
        TermsTest test = new TermsTest();
        Check check = test.check;
        check.sentence("\"at most 512 calls\": the last one answers", test::lastCallAnswers);
        check.sentence("\"at most 512 calls\": the last but one changes its register", test::lastButOneChanges);
        check.sentence("\"at most 512 calls\": the last one is refused", test::lastCallIsRefused);
        check.sentence("\"what later calls answer is free\", but they end", test::laterCallsEnd);
        check.sentence("\"REGISTERS 0 .. 15 hold a NUMBER each\"", test::registersAreApart);
        check.sentence("\"of 256 bits\"", test::numbersHaveTheirBits);
        check.sentence("\"without sign, if nothing else is said\"", test::withoutSign);
        check.sentence("\"WITH SIGN: of two's complement\"", test::withSign);
        check.sentence("\"IllegalArgumentException: a number out of range\", several at once", test::severalOutOfRange);
        check.sentence("\"a number out of range\": what registers hold never is", test::contentsAreNeverRefused);
        check.sentence("\"A call that throws changes nothing\": a new object stays new", test::newObjectStaysNew);
        check.sentence("\"A call that throws changes nothing\": no later answer", test::refusedCallsLeaveNoTrace);
        check.end();
    }

    /** Register 15 is 2^255 + 7 behind these calls, and register 0 is 0. */
    private static WideNumbers usedFor(int calls) {
        WideNumbers w = new WideNumbers();
        w.set(15, Long.MIN_VALUE, 0, 0, 7);
        for (int call = 2; call <= calls; call++) {
            w.two(call % 16, 1 + call % 14, 15, 1 + call % 13);
        }
        return w;
    }

    /** Only a later call could show what a call has changed, so the 512th one is one that answers. */
    private void lastCallAnswers() {
        for (int place = CALLS - 1; place <= CALLS; place++) {
            check.same("get as call " + place, usedFor(place - 1).get(15, 3), 7L);
            check.same("bytes as call " + place, usedFor(place - 1).bytes(15), 32);
            check.same("compare as call " + place, usedFor(place - 1).compare(15, 0, false), 1);
            check.same("compare with sign as call " + place, usedFor(place - 1).compare(15, 0, true), -1);
        }
    }

    private void lastButOneChanges() {
        WideNumbers w = usedFor(CALLS - 2);
        w.set(15, 1, 2, 3, 4);
        check.same("get behind set as call 511", w.get(15, 0), 1L);
        w = usedFor(CALLS - 2);
        w.two(2, 15, 15, 15);
        check.same("get behind two as call 511", w.get(15, 3), 49L);
        w = usedFor(CALLS - 2);
        w.modular(15, 15, 15, 15, true);
        check.same("get behind modular as call 511", w.get(15, 3), 0L);
        w = usedFor(CALLS - 2);
        w.turn(15, 15, false);
        check.same("get behind turn as call 511", w.get(15, 3), -7L);
    }

    private void lastCallIsRefused() {
        for (int place = CALLS - 1; place <= CALLS; place++) {
            String name = " as call " + place;
            check.refusedOn(usedFor(place - 1), "set" + name, w -> w.set(16, 0, 0, 0, 0));
            check.refusedOn(usedFor(place - 1), "get" + name, w -> w.get(0, 4));
            check.refusedOn(usedFor(place - 1), "two" + name, w -> w.two(16, 0, 0, 0));
            check.refusedOn(usedFor(place - 1), "modular" + name, w -> w.modular(0, 0, 0, -1, true));
            check.refusedOn(usedFor(place - 1), "turn" + name, w -> w.turn(0, 16, true));
            check.refusedOn(usedFor(place - 1), "compare" + name, w -> w.compare(0, 16, true));
            check.refusedOn(usedFor(place - 1), "bytes" + name, w -> w.bytes(-1));
        }
    }

    /** LANGUAGE.md's rule 7 holds in any state: these may throw nothing but what the document names. */
    private void laterCallsEnd() {
        WideNumbers w = usedFor(CALLS);
        int ended = 0;
        for (int op = 0; op < 16; op++) {
            try {
                w.two(op, 15, 15, 15);
            } catch (IllegalArgumentException free) {
                // This answer is as free as any other.
            }
            ended++;
        }
        check.same("how many calls behind the 512th ended", ended, 16);
    }

    private void registersAreApart() {
        WideNumbers w = Wide.filled();
        for (int r = 0; r < Wide.REGISTERS; r++) {
            check.number("register " + r + " of sixteen", Wide.read(w, r), Wide.filling(r));
        }
    }

    private void numbersHaveTheirBits() {
        WideNumbers w = new WideNumbers();
        Wide.put(w, 0, Wide.MAX.subtract(Wide.ONE));
        Wide.put(w, 1, Wide.ONE);
        w.two(0, 0, 0, 1);
        check.number("2^256 - 1", Wide.read(w, 0), Wide.MAX);
        w.two(0, 0, 0, 1);
        check.number("2^256", Wide.read(w, 0), Wide.ZERO);
        w.two(0, 0, 0, 1);
        check.number("2^256 + 1", Wide.read(w, 0), Wide.ONE);
    }

    /** 2^255 is the first number that would be below 0 with a sign. */
    private void withoutSign() {
        for (BigInteger n : new BigInteger[] {Wide.GREATEST, Wide.LEAST, Wide.LEAST.add(Wide.ONE), Wide.MAX}) {
            WideNumbers w = new WideNumbers();
            Wide.put(w, 0, n);
            Wide.put(w, 1, Wide.of(3));
            String name = n.toString(16);
            w.two(3, 2, 0, 1);
            check.number(name + " / 3", Wide.read(w, 2), n.divide(Wide.of(3)));
            w.two(4, 2, 0, 1);
            check.number("what is left of " + name + " / 3", Wide.read(w, 2), n.mod(Wide.of(3)));
            w.two(10, 2, 1, 0);
            check.number(name + " moved right by 3", Wide.read(w, 2), n.divide(Wide.of(8)));
            w.modular(2, 0, 0, 1, false);
            check.number(name + " twice, mod 3", Wide.read(w, 2), n.add(n).mod(Wide.of(3)));
            w.modular(2, 0, 0, 1, true);
            check.number(name + " by itself, mod 3", Wide.read(w, 2), n.multiply(n).mod(Wide.of(3)));
            check.same("compare " + name + " with 3", w.compare(0, 1, false), 1);
            check.same("bytes of " + name, w.bytes(0), 32);
        }
    }

    /** From the least one to the greatest one, in this order. */
    private void withSign() {
        BigInteger[] rising = {Wide.LEAST, Wide.LEAST.add(Wide.ONE), Wide.of(-2), Wide.of(-1), Wide.ZERO, Wide.ONE,
            Wide.of(2), Wide.GREATEST.subtract(Wide.ONE), Wide.GREATEST};
        WideNumbers w = new WideNumbers();
        for (int r = 0; r < rising.length; r++) {
            Wide.put(w, r, rising[r]);
        }
        for (int a = 0; a < rising.length; a++) {
            for (int b = 0; b < rising.length; b++) {
                check.same("compare with sign, place " + a + " with place " + b, w.compare(a, b, true), Integer.compare(a, b));
            }
        }
        w.two(5, 15, 2, 3);
        check.number("-2 / -1 with sign", Wide.read(w, 15), Wide.of(2));
        w.two(6, 15, 2, 8);
        check.number("what is left of -2 by the greatest one, with sign", Wide.read(w, 15), Wide.of(-2));
        w.two(11, 15, 5, 2);
        check.number("-2 moved right by 1 with sign", Wide.read(w, 15), Wide.MAX);
    }

    private void severalOutOfRange() {
        check.refused("set(-1, ..)", w -> w.set(-1, -1, -1, -1, -1));
        check.refused("get(16, 4)", w -> w.get(16, 4));
        check.refused("get(-1, -1)", w -> w.get(-1, -1));
        check.refused("two(16, 16, 16, 16)", w -> w.two(16, 16, 16, 16));
        check.refused("two(-1, 0, 0, -1)", w -> w.two(-1, 0, 0, -1));
        check.refused("two(3, 0, -1, 16)", w -> w.two(3, 0, -1, 16));
        for (boolean flag : Wide.BOTH) {
            check.refused("modular(-1, -1, -1, -1)", w -> w.modular(-1, -1, -1, -1, flag));
            check.refused("modular(0, 1, 16, 16)", w -> w.modular(0, 1, 16, 16, flag));
            check.refused("turn(16, -1)", w -> w.turn(16, -1, flag));
            check.refused("compare(-1, 16)", w -> w.compare(-1, 16, flag));
        }
    }

    private void contentsAreNeverRefused() {
        BigInteger[] contents = {Wide.ZERO, Wide.ONE, Wide.of(31), Wide.of(32), Wide.of(256), Wide.LEAST, Wide.MAX};
        for (BigInteger a : contents) {
            for (BigInteger b : contents) {
                for (int op = 0; op < 16; op++) {
                    int good = op;
                    check.accepted("two(" + op + ", 2, 0, 1)", w -> put(w, a, b).two(good, 2, 0, 1));
                }
                for (boolean flag : Wide.BOTH) {
                    check.accepted("modular(2, 0, 0, 1)", w -> put(w, a, b).modular(2, 0, 0, 1, flag));
                    check.accepted("turn(2, 0)", w -> put(w, a, b).turn(2, 0, flag));
                    check.accepted("compare(0, 1)", w -> put(w, a, b).compare(0, 1, flag));
                }
                check.accepted("bytes(0)", w -> put(w, a, b).bytes(0));
            }
        }
    }

    private static WideNumbers put(WideNumbers w, BigInteger a, BigInteger b) {
        Wide.put(w, 0, a);
        Wide.put(w, 1, b);
        return w;
    }

    private void newObjectStaysNew() {
        WideNumbers w = new WideNumbers();
        refuseOneOfEach(w);
        for (int r = 0; r < Wide.REGISTERS; r++) {
            check.number("register " + r, Wide.read(w, r), Wide.ZERO);
        }
    }

    /** Two objects with the same calls, the second one with refused calls between them. */
    private void refusedCallsLeaveNoTrace() {
        WideNumbers calm = Wide.filled();
        WideNumbers disturbed = Wide.filled();
        for (int op = 0; op < 16; op++) {
            calm.two(op, op, (op + 1) % 16, (op + 2) % 16);
            calm.modular((op + 3) % 16, op, (op + 5) % 16, (op + 7) % 16, op % 2 == 0);
            refuseOneOfEach(disturbed);
            disturbed.two(op, op, (op + 1) % 16, (op + 2) % 16);
            refuseOneOfEach(disturbed);
            disturbed.modular((op + 3) % 16, op, (op + 5) % 16, (op + 7) % 16, op % 2 == 0);
        }
        for (int r = 0; r < Wide.REGISTERS; r++) {
            check.number("register " + r, Wide.read(disturbed, r), Wide.read(calm, r));
        }
    }

    private void refuseOneOfEach(WideNumbers w) {
        check.refusedOn(w, "set", x -> x.set(16, 1, 2, 3, 4));
        check.refusedOn(w, "get", x -> x.get(0, -1));
        check.refusedOn(w, "two", x -> x.two(16, 0, 1, 2));
        check.refusedOn(w, "two", x -> x.two(7, 0, 1, 16));
        check.refusedOn(w, "modular", x -> x.modular(0, 1, 2, 16, true));
        check.refusedOn(w, "turn", x -> x.turn(0, 16, true));
        check.refusedOn(w, "compare", x -> x.compare(0, 16, true));
        check.refusedOn(w, "bytes", x -> x.bytes(16));
    }
}
