/** Promise 11: restart. */
public final class P11RestartTest {
    public static void main(String[] args) {
        LadderScan x = new LadderScan();
        Check.same("runs", x.restart(), 0);
        x.block(1, 3, 0);
        x.block(6, 0, 1);
        Check.rung(x, 0, 1, 31, 9, 0, 11, 24, 10, 8);
        Check.rung(x, 1, 0, 0, 9, 1);
        x.download();
        x.wire(0, 1);
        Check.throwsOnly("divides by 0", ArithmeticException.class, () -> x.scan(1));
        Check.same("stopped", x.count(2), 1);
        Check.same("restart", x.restart(), 1);
        Check.same("no more stopped", x.count(2), 0);
        Check.same("restart again", x.restart(), 0);
        Check.same("failed scans stay", x.count(1), 1);
        Check.same("bit 24 stays", x.bit(24), 1);
        Check.same("bit 0 stays", x.bit(0), 1);
        Check.same("COUNT stays", x.state(0, 2), 3);
        Check.same("the wire waits for a scan", x.out(8), 0);
        x.wire(0, 0);
        Check.same("scan", x.scan(1), 12);
        Check.same("the wire", x.out(8), 1);
        x.wire(0, 1);
        Check.throwsOnly("divides by 0 again", ArithmeticException.class, () -> x.scan(1));
        Check.same("stopped again", x.restart(), 1);
        Check.end();
    }
}
