/** Promise 9: force. */
public final class P09ForceTest {
    private static final Class<?> ARGUMENT = IllegalArgumentException.class;

    public static void main(String[] args) {
        LadderScan x = new LadderScan();
        for (int i = 0; i < 32; i++) {
            Check.same("force", x.force(i, 1), -1);
            Check.same("reads", x.bit(i), 1);
            Check.same("forced", x.count(5), 1);
            Check.same("force", x.force(i, 0), 1);
            Check.same("reads", x.bit(i), 0);
            Check.same("forced", x.count(5), 1);
            Check.same("force", x.force(i, -1), 0);
            Check.same("force", x.force(i, -1), -1);
            Check.same("forced", x.count(5), 0);
        }
        Check.refuses("bit -1", x, ARGUMENT, () -> x.force(-1, 0));
        Check.refuses("bit 32", x, ARGUMENT, () -> x.force(32, 0));
        Check.refuses("value -2", x, ARGUMENT, () -> x.force(0, -2));
        Check.refuses("value 2", x, ARGUMENT, () -> x.force(0, 2));
        whatABitIsSetToWaitsBehind();
        stepsReadTheForce();
        Check.end();
    }

    private static void whatABitIsSetToWaitsBehind() {
        LadderScan x = new LadderScan();
        Check.rung(x, 0, 0, 0, 10, 8, 11, 16, 1, 0, 12, 16);
        x.download();
        x.wire(0, 1);
        x.force(8, 0);
        x.force(16, 0);
        x.scan(1);
        Check.same("bit 8", x.bit(8), 0);
        Check.same("out(8)", x.out(8), 0);
        Check.same("bit 16", x.bit(16), 0);
        x.force(8, -1);
        x.force(16, -1);
        Check.same("bit 8 was set", x.bit(8), 1);
        Check.same("bit 16 was latched", x.bit(16), 1);
        Check.same("the wire waits for the scan", x.out(8), 0);
        x.force(8, 1);
        x.force(16, 1);
        x.wire(0, 0);
        x.scan(1);
        Check.same("out(8)", x.out(8), 1);
        Check.same("bit 16", x.bit(16), 1);
        x.force(8, -1);
        x.force(16, -1);
        Check.same("bit 8 was set", x.bit(8), 0);
        Check.same("bit 16 was cleared", x.bit(16), 0);
        Check.same("the wire waits for the scan", x.out(8), 1);
    }

    private static void stepsReadTheForce() {
        LadderScan x = new LadderScan();
        x.block(2, 5, 2);
        Check.rung(x, 0, 0, 0, 10, 8, 9, 0);
        Check.rung(x, 1, 1, 0, 10, 9);
        x.download();
        x.force(0, 1);
        x.scan(1);
        Check.same("LOAD", x.out(8), 1);
        Check.same("LOAD NOT", x.out(9), 0);
        Check.same("counted", x.state(0, 2), 1);
        x.force(2, 1);
        x.scan(1);
        Check.same("reset by a forced bit", x.state(0, 2), 0);
        x.wire(2, 1);
        x.force(2, 0);
        x.force(0, 0);
        x.scan(1);
        x.force(0, 1);
        x.scan(1);
        Check.same("not reset, as the bit reads 0", x.state(0, 2), 1);
        x.force(0, -1);
        Check.same("the input itself", x.bit(0), 0);
    }
}
