/** Promise 11: restart. */
public final class P11RestartTest {
    public static void main(String[] args) {
        oneIfStopped();
        zeroElse();
        nothingElseChanges();
        itMayStopAgain();
        Check.end();
    }

    private static void oneIfStopped() {
        Check.sentence("A controller that has STOPPED goes on with the next scan: 1");
        Plc x = Check.stopped();
        Check.same("stopped", x.count(2), 1);
        Check.same("restart", x.restart(), 1);
        Check.same("no more stopped", x.count(2), 0);
        x.wire(0, 0);
        Check.same("the next scan", x.scan(1), 12);
        Check.same("made in full", x.count(0), 1);
    }

    private static void zeroElse() {
        Check.sentence("A controller that has STOPPED goes on with the next scan: 1, else 0.");
        Check.same("new", new Plc().restart(), 0);
        Plc busy = Check.busy();
        Plc twin = busy.again();
        Check.same("busy", busy.restart(), 0);
        twin.count(0);
        Check.isTrue("nothing changes", Probe.of(busy).equals(Probe.of(twin)));
        Plc stopped = Check.stopped();
        stopped.restart();
        Check.same("restarted before", stopped.restart(), 0);
        Plc failed = Check.stopped();
        failed.fail();
        Check.same("behind a power failure", failed.restart(), 0);
    }

    private static void nothingElseChanges() {
        Check.sentence("goes on with the next scan (as it was left)");
        Plc x = new Plc();
        x.block(1, 3, 0);
        x.block(6, 0, 1);
        Check.rung(x, 0, 1, 31, 9, 0, 11, 24, 10, 8);
        Check.rung(x, 1, 0, 0, 9, 1);
        x.download();
        x.wire(0, 1);
        x.put(0, 7);
        x.force(31, 0);
        Check.fails("divides by 0", ArithmeticException.class, () -> x.scan(1));
        x.restart();
        Check.same("failed scans stay", x.count(1), 1);
        Check.same("forced bits", x.count(5), 1);
        Check.same("steps of the program", x.count(4), 6);
        Check.same("bit 24 stays", x.bit(24), 1);
        Check.same("bit 0 stays", x.bit(0), 1);
        Check.same("register 0 stays", x.register(0), 7);
        Check.same("COUNT stays", x.state(0, 2), 3);
        Check.same("output stays", x.state(0, 1), 1);
        Check.same("the wire waits for a scan", x.out(8), 0);
        Check.same("the wire of the input stays", x.wire(0, 0), 1);
        Check.same("scan", x.scan(1), 12);
        Check.same("the wire", x.out(8), 1);
    }

    private static void itMayStopAgain() {
        Check.sentence("With a failure the controller STOPS (again)");
        Plc x = Check.stopped();
        for (int failures = 2; failures <= 5; failures++) {
            Check.same("restart", x.restart(), 1);
            Check.fails("divides by 0 again", ArithmeticException.class, () -> x.scan(2));
            Check.same("failed scans", x.count(1), failures);
        }
    }
}
