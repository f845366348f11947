/** Promise 12: fail. */
public final class P12FailTest {
    public static void main(String[] args) {
        LadderScan x = running();
        Check.same("KEPT bits 24 and 31", x.fail(), 2);
        for (int i = 0; i < 24; i++) {
            Check.same("bit " + i, x.bit(i), i == 3 ? 1 : 0);
        }
        Check.same("bit 24", x.bit(24), 1);
        Check.same("bit 31 reads its force", x.bit(31), 0);
        Check.same("bit 30 reads its force", x.bit(30), 1);
        for (int i = 8; i < 16; i++) {
            Check.same("out " + i, x.out(i), 0);
        }
        for (int i = 0; i < 4; i++) {
            Check.same("output of block " + i, x.state(i, 1), 0);
            Check.same("COUNT of block " + i, x.state(i, 2), 0);
        }
        whatStays(x);
        inputsOfBlocksAreForgotten();
        notStopped();
        Check.end();
    }

    /** Everything that power can lose is 1 or above 0. */
    private static LadderScan running() {
        LadderScan x = new LadderScan();
        x.block(0, 2, 0);
        x.block(1, 2, 0);
        x.block(2, 1, 30);
        x.block(5, 0, 1);
        x.tune(3, 2, 1);
        Check.rung(x, 0, 0, 0, 9, 0, 0, 0, 9, 1, 0, 0, 10, 24, 10, 31);
        Check.rung(x, 1, 0, 0, 9, 2, 9, 3, 10, 8, 10, 15, 10, 16, 10, 23);
        x.download();
        x.put(0, 4);
        x.wire(0, 1);
        x.wire(7, 1);
        x.scan(2);
        x.force(31, 0);
        x.force(30, 1);
        x.force(3, 1);
        return x;
    }

    private static void whatStays(LadderScan x) {
        Check.same("register 0", x.register(0), 4);
        Check.same("register 1", x.register(1), 9);
        Check.same("scans", x.count(0), 2);
        Check.same("blocks", x.count(3), 4);
        Check.same("steps of the program", x.count(4), 14);
        Check.same("forced bits", x.count(5), 3);
        Check.same("factor", x.tune(3, 2, 1), 2);
        Check.same("kind", x.state(2, 0), 2);
        Check.same("rung", x.erase(1), 7);
    }

    private static void inputsOfBlocksAreForgotten() {
        LadderScan x = new LadderScan();
        x.block(3, 0, 0);
        x.block(4, 0, 0);
        x.block(2, 9, 7);
        Check.rung(x, 0, 0, 0, 9, 0, 10, 8);
        Check.rung(x, 1, 0, 0, 9, 1, 10, 9);
        Check.rung(x, 2, 0, 0, 9, 2);
        x.download();
        x.wire(0, 1);
        x.scan(2);
        Check.same("does not rise", x.out(8), 0);
        x.fail();
        Check.same("the wire of the input stays", x.wire(0, 1), 1);
        Check.same("the program stays", x.scan(1), 12);
        Check.same("rises anew", x.out(8), 1);
        Check.same("counted anew", x.state(2, 2), 1);
        x.fail();
        x.wire(0, 0);
        x.scan(1);
        Check.same("does not fall", x.out(9), 0);
    }

    private static void notStopped() {
        LadderScan x = new LadderScan();
        Check.rung(x, 0, 1, 0, 11, 25, 13, 0);
        x.download();
        Check.throwsOnly("loops", IllegalStateException.class, () -> x.scan(1));
        Check.same("fail", x.fail(), 1);
        Check.same("not stopped", x.count(2), 0);
        Check.same("failed scans", x.count(1), 1);
        Check.same("restart", x.restart(), 0);
        x.wire(0, 1);
        Check.same("scan", x.scan(1), 12);
    }
}
