import java.math.BigInteger;
import java.util.Arrays;
import java.util.Random;

/** Runs of 512 calls of all kinds on one object, wrong ones among them, beside a model. */
final class LongRunTest {
    private static final int CALLS = 512;
    private static final int CLOSING_READS = 4 * Wide.REGISTERS;

    private final Check check;
    private final String name;
    private final Random random;
    private final WideNumbers w = new WideNumbers();
    private final BigInteger[] model = new BigInteger[Wide.REGISTERS];
    private boolean refused;

    private LongRunTest(Check check, long seed) {
        this.check = check;
        name = "run " + seed + ": ";
        random = new Random(seed);
        Arrays.fill(model, Wide.ZERO);
    }

    public static void main(String[] args) {
        Check check = new Check("what it is");
        check.sentence("\"at most 512 calls\", of all kinds, beside a model", () -> runs(check));
        check.end();
    }

    private static void runs(Check check) {
        for (int seed = 0; seed < 300; seed++) {
            LongRunTest run = new LongRunTest(check, seed);
            for (int i = 0; i < CALLS - CLOSING_READS; i++) {
                run.oneCall();
            }
            for (int r = 0; r < Wide.REGISTERS; r++) {
                check.number(run.name + "register " + r, Wide.read(run.w, r), run.model[r]);
            }
        }
    }

    /** Now and then a number just outside. */
    private int pick(int bound) {
        int n = random.nextInt(60) == 0 ? (random.nextBoolean() ? -1 : bound) : random.nextInt(bound);
        refused |= n < 0 || n >= bound;
        return n;
    }

    private void oneCall() {
        refused = false;
        boolean threw = false;
        try {
            switch (random.nextInt(10)) {
                case 0: case 1: callSet(); break;
                case 2: callGet(); break;
                case 3: case 4: case 5: callTwo(); break;
                case 6: callModular(); break;
                case 7: callTurn(); break;
                case 8: callCompare(); break;
                default: callBytes(); break;
            }
        } catch (IllegalArgumentException e) {
            threw = true;
        }
        check.same(name + "a call throws", threw, refused);
    }

    private void keep(int to, BigInteger n) {
        model[to] = n;
    }

    private void callSet() {
        int r = pick(16);
        BigInteger n = Wide.any(random);
        Wide.put(w, r, n);
        keep(r, n);
    }

    private void callGet() {
        int r = pick(16);
        int part = pick(4);
        long got = w.get(r, part);
        check.same(name + "get", got, Wide.part(model[r], part));
    }

    private void callTwo() {
        int op = pick(16);
        int to = pick(16);
        int a = pick(16);
        int b = pick(16);
        w.two(op, to, a, b);
        keep(to, Due.two(op, model[a], model[b]));
    }

    private void callModular() {
        int to = pick(16);
        int a = pick(16);
        int b = pick(16);
        int c = pick(16);
        boolean times = random.nextBoolean();
        w.modular(to, a, b, c, times);
        keep(to, Due.modular(model[a], model[b], model[c], times));
    }

    private void callTurn() {
        int to = pick(16);
        int a = pick(16);
        boolean not = random.nextBoolean();
        w.turn(to, a, not);
        keep(to, Due.turn(model[a], not));
    }

    private void callCompare() {
        int a = pick(16);
        int b = pick(16);
        boolean sign = random.nextBoolean();
        check.same(name + "compare", w.compare(a, b, sign), Due.compare(model[a], model[b], sign));
    }

    private void callBytes() {
        int a = pick(16);
        check.same(name + "bytes", w.bytes(a), Due.bytes(model[a]));
    }
}
