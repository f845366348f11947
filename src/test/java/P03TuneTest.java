import java.util.NoSuchElementException;

/** Promise 3: tune. */
public final class P03TuneTest {
    private static final Class<?> MISSING = NoSuchElementException.class;
    private static final Class<?> UNSUPPORTED = UnsupportedOperationException.class;
    private static final Class<?> ARGUMENT = IllegalArgumentException.class;

    public static void main(String[] args) {
        LadderScan x = new LadderScan();
        Check.refuses("no block yet", x, MISSING, () -> x.tune(0, 1, 1));
        for (int kind = 0; kind < 8; kind++) {
            x.block(kind, 1, 1);
        }
        Check.refuses("block -1", x, MISSING, () -> x.tune(-1, Double.NaN, 1));
        Check.refuses("block 8", x, MISSING, () -> x.tune(8, 0.1, 1));
        for (int block = 0; block < 5; block++) {
            int b = block;
            Check.refuses("kind " + b, x, UNSUPPORTED, () -> x.tune(b, Double.NaN, 0.1));
        }
        for (int block = 5; block < 8; block++) {
            numbersOf(x, block);
        }
        factorBelowOffset(x);
        aRefusedTuneChangesNothing();
        Check.end();
    }

    private static void numbersOf(LadderScan x, int block) {
        Check.same("first factor", x.tune(block, 8192, -8192), 0);
        Check.same("factor before", x.tune(block, 0.125, -0.125), 8192);
        Check.same("factor before", x.tune(block, -8192, -8192), 0.125);
        Check.same("factor before", x.tune(block, 8192, 8192), -8192);
        Check.same("factor before", x.tune(block, 8191.875, -8191.875), 8192);
        double[] wrong = {8192.125, -8192.125, 0.1, 0.0625, -0.0625, 1e300, -1e300, 8192.0000001, Double.MIN_VALUE,
            -Double.MIN_VALUE, Double.NaN, Double.POSITIVE_INFINITY, Double.NEGATIVE_INFINITY, 536870912.0};
        for (double value : wrong) {
            Check.refuses("factor " + value, x, ARGUMENT, () -> x.tune(block, value, -8192));
            Check.refuses("offset " + value, x, ARGUMENT, () -> x.tune(block, 8192, value));
        }
        Check.same("the factor is as it was", x.tune(block, 0, 0), 8191.875);
    }

    private static void factorBelowOffset(LadderScan x) {
        Check.same("scale", x.tune(5, -1, 1), 0);
        Check.same("divide", x.tune(6, -1, 1), 0);
        Check.refuses("limit", x, ARGUMENT, () -> x.tune(7, -1, 1));
        Check.refuses("limit by an eighth", x, ARGUMENT, () -> x.tune(7, 1, 1.125));
        Check.same("limit with both the same", x.tune(7, 1, 1), 0);
        Check.same("limit", x.tune(7, 2, 1), 1);
    }

    private static void aRefusedTuneChangesNothing() {
        LadderScan x = Check.through(5, 0, 1);
        x.tune(0, 2, 3);
        Check.refuses("offset", x, ARGUMENT, () -> x.tune(0, 5, 0.1));
        Check.refuses("factor", x, ARGUMENT, () -> x.tune(0, 0.1, 5));
        x.put(0, 10);
        x.wire(0, 1);
        x.scan(1);
        Check.same("register 1", x.register(1), 23);
    }
}
