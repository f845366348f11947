/** Promise 10: scan: its arguments, the order of things, jumps and failures. */
public final class P10ScanTest {
    private static final Class<?> ARGUMENT = IllegalArgumentException.class;
    private static final Class<?> STATE = IllegalStateException.class;
    private static final Class<?> ARITHMETIC = ArithmeticException.class;

    public static void main(String[] args) {
        arguments();
        rungsGoInOrder();
        jumps();
        thirtyRungsAreFine();
        tooManyRungs();
        divisionByZero();
        aFailureInALaterScan();
        Check.end();
    }

    private static void arguments() {
        LadderScan x = new LadderScan();
        Check.refuses("n 0", x, ARGUMENT, () -> x.scan(0));
        Check.refuses("n -1", x, ARGUMENT, () -> x.scan(-1));
        Check.refuses("n 21", x, ARGUMENT, () -> x.scan(21));
        Check.same("n 1", x.scan(1), 12);
        Check.same("n 20", x.scan(20), 240);
        Check.same("scans", x.count(0), 21);
    }

    private static void rungsGoInOrder() {
        LadderScan x = new LadderScan();
        Check.rung(x, 0, 0, 17, 10, 16);
        Check.rung(x, 1, 0, 0, 10, 17);
        Check.rung(x, 2, 0, 17, 10, 18);
        x.download();
        x.wire(0, 1);
        x.scan(1);
        Check.same("read before it was set", x.bit(16), 0);
        Check.same("read after it was set", x.bit(18), 1);
        x.scan(1);
        Check.same("read in the next scan", x.bit(16), 1);
    }

    private static void jumps() {
        LadderScan x = new LadderScan();
        Check.rung(x, 0, 0, 0, 13, 4, 1, 31, 10, 16);
        Check.rung(x, 1, 1, 31, 10, 17);
        Check.rung(x, 4, 1, 31, 10, 20);
        x.download();
        x.wire(0, 1);
        Check.same("rungs 0, 4 .. 11", x.scan(1), 9);
        Check.same("the rest of the rung is left out", x.bit(16), 0);
        Check.same("rung 1 is left out", x.bit(17), 0);
        Check.same("rung 4 is done", x.bit(20), 1);
        x.wire(0, 0);
        Check.same("no jump", x.scan(1), 12);
        Check.same("the rest of the rung is done", x.bit(16), 1);
        Check.same("rung 1 is done", x.bit(17), 1);
        x.wire(0, 1);
        Check.same("three scans", x.scan(3), 27);
    }

    /** Every round from rung backTo on counts one, and rung 11 begins another until the counter is full. */
    private static LadderScan looping(int backTo, int times) {
        LadderScan x = new LadderScan();
        x.block(2, times, 7);
        Check.rung(x, backTo, 1, 31, 9, 0, 10, 16);
        Check.rung(x, backTo + 1, 0, 31, 9, 0);
        Check.rung(x, 11, 1, 16, 13, backTo);
        x.download();
        return x;
    }

    private static void thirtyRungsAreFine() {
        LadderScan x = looping(9, 7);
        Check.same("12 and six times 3", x.scan(1), 30);
        Check.same("made in full", x.count(0), 1);
        LadderScan y = looping(9, 8);
        Check.throwsOnly("33 rungs", STATE, () -> y.scan(1));
        LadderScan z = new LadderScan();
        z.block(0, 19, 0);
        Check.rung(z, 11, 1, 31, 9, 0, 10, 8, 0, 31, 5, 8, 13, 11);
        z.download();
        Check.same("rung 11 is done 19 times", z.scan(1), 30);
        Check.same("out(8)", z.out(8), 1);
        LadderScan w = new LadderScan();
        w.block(0, 20, 0);
        Check.rung(w, 11, 1, 31, 9, 0, 10, 8, 0, 31, 5, 8, 13, 11);
        w.download();
        Check.throwsOnly("31 rungs", STATE, () -> w.scan(1));
        Check.same("the 31st was not done", w.state(0, 2), 19);
    }

    private static void tooManyRungs() {
        LadderScan x = new LadderScan();
        x.block(1, 5, 0);
        Check.rung(x, 0, 0, 1, 10, 8, 1, 31, 10, 9, 11, 24, 9, 0);
        Check.rung(x, 1, 0, 0, 13, 1);
        x.download();
        x.wire(1, 1);
        Check.same("in full", x.scan(2), 24);
        Check.same("out(9)", x.out(9), 1);
        x.wire(0, 1);
        x.wire(1, 0);
        Check.throwsOnly("a rung that jumps to itself", STATE, () -> x.scan(3));
        Check.same("scans in full", x.count(0), 2);
        Check.same("failed scans", x.count(1), 1);
        Check.same("stopped", x.count(2), 1);
        for (int i = 8; i < 16; i++) {
            Check.same("out(" + i + ")", x.out(i), 0);
        }
        Check.same("the input was taken in", x.bit(0), 1);
        Check.same("bit 8 was set by then", x.bit(8), 0);
        Check.same("bit 9 stays", x.bit(9), 1);
        Check.same("bit 24 stays", x.bit(24), 1);
        Check.same("COUNT stays", x.state(0, 2), 5);
        Check.refuses("while stopped", x, STATE, () -> x.scan(1));
        Check.refuses("while stopped, out of range", x, ARGUMENT, () -> x.scan(0));
        Check.refuses("while stopped, out of range", x, ARGUMENT, () -> x.scan(21));
    }

    private static void divisionByZero() {
        LadderScan x = new LadderScan();
        x.block(6, 0, 1);
        Check.rung(x, 0, 1, 31, 10, 8);
        Check.rung(x, 1, 0, 0, 9, 0, 10, 9);
        Check.rung(x, 2, 0, 0, 10, 10);
        x.download();
        x.put(1, 3);
        Check.same("x is 0", x.scan(1), 12);
        Check.same("out(8)", x.out(8), 1);
        x.wire(0, 1);
        x.force(11, 1);
        Check.throwsOnly("factor 0", ARITHMETIC, () -> x.scan(20));
        Check.same("scans in full", x.count(0), 1);
        Check.same("failed scans", x.count(1), 1);
        Check.same("stopped", x.count(2), 1);
        Check.same("out(8)", x.out(8), 0);
        Check.same("a forced output's wire is 0 too", x.out(11), 0);
        Check.same("bit 8 stays", x.bit(8), 1);
        Check.same("the input was taken in", x.bit(0), 1);
        Check.same("nothing after it", x.bit(10), 0);
        Check.same("the step after it", x.bit(9), 0);
        Check.same("register 1", x.register(1), 3);
        Check.same("the block did not come to its output", x.state(0, 1), 0);
        Check.refuses("while stopped", x, STATE, () -> x.scan(1));
        x.restart();
        x.tune(0, 2, 0);
        x.put(0, 5);
        Check.same("goes on", x.scan(1), 12);
        Check.same("register 1", x.register(1), 2.5);
        Check.same("out(11)", x.out(11), 1);
    }

    private static void aFailureInALaterScan() {
        LadderScan x = new LadderScan();
        x.block(0, 4, 0);
        x.block(6, 0, 1);
        Check.rung(x, 0, 1, 31, 9, 0, 9, 1);
        x.download();
        Check.throwsOnly("the fourth scan", ARITHMETIC, () -> x.scan(10));
        Check.same("scans in full", x.count(0), 3);
        Check.same("failed scans", x.count(1), 1);
        x.restart();
        Check.throwsOnly("the fifth scan", ARITHMETIC, () -> x.scan(10));
        Check.same("scans in full", x.count(0), 3);
        Check.same("failed scans", x.count(1), 2);
    }
}
