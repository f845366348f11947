import java.util.NoSuchElementException;

/** Promise 3: tune. */
public final class P03TuneTest {
    private static final Class<?> MISSING = NoSuchElementException.class;
    private static final Class<?> UNSUPPORTED = UnsupportedOperationException.class;
    private static final Class<?> ARGUMENT = IllegalArgumentException.class;

    public static void main(String[] args) {
        answersTheFactorBefore();
        noSuchBlock();
        anotherKind();
        notInRange();
        noMultipleOfAnEighth();
        theEndsAreTaken();
        factorBelowOffset();
        everyNumberIsUsed();
        aRefusedTuneChangesNothing();
        minusZeroIsZero();
        Check.end();
    }

    private static void answersTheFactorBefore() {
        Check.sentence("Sets factor and offset of a block of kind 5 to 7 (both 0 at first); answers the factor before.");
        for (int kind = 5; kind <= 7; kind++) {
            Plc x = new Plc();
            x.block(3, 0, 0);
            x.block(kind, 0, 0);
            x.block(kind, 0, 0);
            Check.same("first", x.tune(1, 3, -2), 0);
            Check.same("second", x.tune(1, 5.125, 0), 3);
            Check.same("the same again", x.tune(1, 5.125, 0), 5.125);
            Check.same("another block's", x.tune(2, 1, 0), 0);
            Check.same("third", x.tune(1, -1, -1), 5.125);
        }
        Plc untuned = Check.through(5, 0, 1);
        untuned.put(0, 5);
        untuned.put(1, 5);
        untuned.wire(0, 1);
        untuned.scan(1);
        Check.same("times 0 plus 0", untuned.register(1), 0);
        Plc limited = Check.through(7, 0, 1);
        limited.put(0, 5);
        limited.put(1, 5);
        limited.wire(0, 1);
        limited.scan(1);
        Check.same("between 0 and 0", limited.register(1), 0);
    }

    private static void noSuchBlock() {
        Check.sentence("NoSuchElementException: no such block.");
        Plc none = new Plc();
        Check.refuses("block 0 of none", none, MISSING, () -> none.tune(0, 1, 1));
        for (int block : new int[] {Integer.MIN_VALUE, -1, 10, Integer.MAX_VALUE}) {
            Check.refusesAlways("block " + block, MISSING, x -> x.tune(block, 1, 1));
        }
        Plc busy = Check.busy();
        Check.refuses("block 8 of 8", busy, MISSING, () -> busy.tune(8, 1, 1));
        Check.same("block 7 of 8", busy.tune(7, 1, 1), 3);
        Plc ten = new Plc();
        for (int i = 0; i < 10; i++) {
            ten.block(5, 0, 0);
        }
        Check.same("block 9 of 10", ten.tune(9, 1, 1), 0);
        Check.refuses("block 10 of 10", ten, MISSING, () -> ten.tune(10, 1, 1));
        Check.sentence("What is thrown is told in the order of testing");
        Check.refusesAlways("block -1 with wrong numbers", MISSING, x -> x.tune(-1, 0.1, 9000));
    }

    private static void anotherKind() {
        Check.sentence("UnsupportedOperationException: another kind.");
        for (int kind = 0; kind < 5; kind++) {
            int k = kind;
            Plc x = Check.busy();
            Check.refuses("kind " + k, x, UNSUPPORTED, () -> x.tune(k, 1, 1));
            Check.sentence("What is thrown is told in the order of testing");
            Check.refuses("kind " + k + " with wrong numbers", x, UNSUPPORTED, () -> x.tune(k, 0.1, 9000));
            Check.refuses("kind " + k + ", factor below offset", x, UNSUPPORTED, () -> x.tune(k, -1, 1));
        }
    }

    /** For each kind, as the factor, as the offset, and as both. */
    private static void refusesNumber(double value) {
        for (int kind = 5; kind <= 7; kind++) {
            int k = kind;
            Plc x = Check.busy();
            Check.refuses("kind " + k + ", factor " + value, x, ARGUMENT, () -> x.tune(k, value, -8192));
            Check.refuses("kind " + k + ", offset " + value, x, ARGUMENT, () -> x.tune(k, 8192, value));
            Check.refuses("kind " + k + ", both " + value, x, ARGUMENT, () -> x.tune(k, value, value));
        }
    }

    private static void notInRange() {
        Check.sentence("one is no multiple of an eighth from -8192 to 8192 (out of range)");
        double[] wrong = {8192.125, -8192.125, 8193, -8193, Math.nextUp(8192.0), Math.nextDown(-8192.0), 268435456.0,
            -268435456.0, 536870912.0, 1e300, -1e300, Double.MAX_VALUE, Double.POSITIVE_INFINITY,
            Double.NEGATIVE_INFINITY, Double.NaN};
        for (double value : wrong) {
            refusesNumber(value);
        }
    }

    private static void noMultipleOfAnEighth() {
        Check.sentence("one is no multiple of an eighth from -8192 to 8192 (between two)");
        double[] wrong = {0.1, -0.1, 0.0625, -0.0625, 0.1875, 8191.9375, -8191.9375, Math.nextUp(0.125),
            Math.nextDown(0.125), Math.nextUp(-0.125), Math.nextDown(-0.125), Math.nextDown(8192.0),
            Math.nextUp(-8192.0), Double.MIN_VALUE, -Double.MIN_VALUE};
        for (double value : wrong) {
            refusesNumber(value);
        }
    }

    private static void theEndsAreTaken() {
        Check.sentence("a multiple of an eighth from -8192 to 8192");
        for (int kind = 5; kind <= 7; kind++) {
            Plc x = new Plc();
            x.block(kind, 0, 0);
            double[][] pairs = {{8192, -8192}, {8192, 8192}, {-8192, -8192}, {8191.875, -8191.875}, {0.125, -0.125},
                {-0.125, -0.125}, {0, 0}, {1.375, -7.625}};
            double before = 0;
            for (double[] pair : pairs) {
                Check.same("factor before " + pair[0], x.tune(0, pair[0], pair[1]), before);
                before = pair[0];
            }
        }
    }

    private static void factorBelowOffset() {
        Check.sentence("or, for 7, factor below offset");
        double[][] below = {{-0.125, 0}, {0, 0.125}, {1, 1.125}, {-1, 1}, {-8192, -8191.875}, {-8192, 8192},
            {8191.875, 8192}};
        for (double[] pair : below) {
            Plc x = Check.busy();
            Check.refuses("limit " + pair[0] + ", " + pair[1], x, ARGUMENT, () -> x.tune(7, pair[0], pair[1]));
            Check.same("scale may", x.tune(5, pair[0], pair[1]), 2);
            Check.same("divide may", x.tune(6, pair[0], pair[1]), 4);
        }
        Plc x = Check.busy();
        Check.same("at the offset", x.tune(7, 1.125, 1.125), 3);
        Check.same("an eighth above it", x.tune(7, 1.25, 1.125), 1.125);
        Check.same("at the lower end", x.tune(7, -8192, -8192), 1.25);
        Check.same("at the upper end", x.tune(7, 8192, 8192), -8192);
    }

    private static void everyNumberIsUsed() {
        Check.sentence("register q becomes FIT(register p times the block's factor plus its offset)");
        Plc x = Check.through(5, 0, 1);
        x.put(0, 10);
        x.wire(0, 1);
        double[][] rows = {{2, 3, 23}, {2, -3, 17}, {-2, 3, -17}, {0.125, 0.125, 1.375}, {0, 8192, 8192}, {0, -8192, -8192}};
        for (double[] row : rows) {
            x.tune(0, row[0], row[1]);
            Check.same("the register waits for a scan", x.put(2, 0), 0);
            x.scan(1);
            Check.same("10 times " + row[0] + " plus " + row[1], x.register(1), row[2]);
        }
    }

    private static void aRefusedTuneChangesNothing() {
        Check.sentence("a call that throws changes nothing");
        Plc x = Check.through(5, 0, 1);
        x.tune(0, 2, 3);
        Check.refuses("a wrong offset", x, ARGUMENT, () -> x.tune(0, 5, 0.1));
        Check.refuses("a wrong factor", x, ARGUMENT, () -> x.tune(0, 0.1, 5));
        x.put(0, 10);
        x.wire(0, 1);
        x.scan(1);
        Check.same("register 1", x.register(1), 23);
        Check.same("the factor", x.tune(0, 0, 0), 2);
        Plc y = Check.through(7, 0, 1);
        y.tune(0, 4, 2);
        Check.refuses("factor below offset", y, ARGUMENT, () -> y.tune(0, 6, 7));
        y.put(0, 1);
        y.wire(0, 1);
        y.scan(1);
        Check.same("the offset holds", y.register(1), 2);
        y.put(0, 5);
        y.scan(1);
        Check.same("the factor holds", y.register(1), 4);
    }

    private static void minusZeroIsZero() {
        Check.sentence("a DIVIDE with a factor 0 that x is 1 for");
        Plc x = Check.through(6, 0, 1);
        x.tune(0, 1, 0);
        Check.same("to -0.0", x.tune(0, -0.0, -0.0), 1);
        x.wire(0, 1);
        Check.fails("divides by it", ArithmeticException.class, () -> x.scan(1));
        Check.same("the factor", x.tune(0, 1, 0), 0);
    }
}
