/** Promise 12: fail. */
public final class P12FailTest {
    public static void main(String[] args) {
        bitsThatAreNotKept();
        firstAndLastKeptBit();
        wiresOfOutputs();
        outputsAndCountsOfBlocks();
        inputsOfBlocksAreForgotten();
        notStopped();
        whatStays();
        answersKeptBitsNotAsTheyRead();
        everyNumberOfKeptBits();
        aNewObject();
        Check.end();
    }

    /** Every bit 8 .. 31 is 1, by steps, and so are inputs 0 and 7. */
    private static Plc allOnes() {
        Plc x = new Plc();
        for (int bit = 8; bit < 32; bit++) {
            Check.rung(x, bit % 12, 0, 0, 11, bit);
        }
        x.download();
        x.wire(0, 1);
        x.wire(7, 1);
        x.scan(1);
        return x;
    }

    private static void bitsThatAreNotKept() {
        Check.sentence("Power fails: all bits that are not KEPT ... are 0, as at first");
        Plc x = allOnes();
        for (int bit : new int[] {0, 7, 8, 15, 16, 23, 24, 31}) {
            Check.same("bit " + bit + " before", x.bit(bit), 1);
        }
        Check.same("fail", x.fail(), 8);
        for (int bit = 0; bit < 32; bit++) {
            Check.same("bit " + bit, x.bit(bit), bit >= 24 ? 1 : 0);
        }
    }

    private static void firstAndLastKeptBit() {
        Check.sentence("MARKERS, of which 24 to 31 are KEPT when power fails");
        for (int bit = 8; bit < 32; bit++) {
            Plc x = new Plc();
            Check.rung(x, 0, 1, 0, 11, bit);
            x.download();
            x.scan(1);
            Check.same("fail with bit " + bit, x.fail(), bit >= 24 ? 1 : 0);
            Check.same("bit " + bit, x.bit(bit), bit >= 24 ? 1 : 0);
            Check.same("fail again", x.fail(), bit >= 24 ? 1 : 0);
        }
    }

    private static void wiresOfOutputs() {
        Check.sentence("all wires of outputs ... are 0");
        Plc x = allOnes();
        x.force(8, 1);
        x.scan(1);
        for (int bit = 8; bit < 16; bit++) {
            Check.same("out(" + bit + ") before", x.out(bit), 1);
        }
        x.fail();
        for (int bit = 8; bit < 16; bit++) {
            Check.same("out(" + bit + ")", x.out(bit), 0);
        }
        Check.same("bit 8 reads its force", x.bit(8), 1);
        x.force(8, -1);
        Check.same("bit 8 itself is 0", x.bit(8), 0);
    }

    private static void outputsAndCountsOfBlocks() {
        Check.sentence("outputs and COUNTS of blocks ... are 0");
        Plc x = new Plc();
        int[] p = {2, 2, 1, 0, 0, 0, 1, 2};
        for (int block = 0; block < 10; block++) {
            int kind = block < 8 ? block : 1;
            x.block(kind, p[kind], kind == 2 ? 31 : 3);
            Check.rung(x, block, kind == 4 ? 1 : 0, 0, 9, block);
        }
        x.tune(6, 1, 0);
        x.download();
        x.scan(1);
        x.wire(0, 1);
        x.scan(2);
        int[] output = {1, 1, 1, 0, 0, 1, 1, 1, 1, 1};
        int[] counted = {2, 2, 1, 0, 0, 0, 0, 0, 2, 2};
        for (int block = 0; block < 10; block++) {
            Check.same("output of " + block + " before", x.state(block, 1), output[block]);
            Check.same("COUNT of " + block + " before", x.state(block, 2), counted[block]);
        }
        x.fail();
        for (int block = 0; block < 10; block++) {
            Check.same("output of " + block, x.state(block, 1), 0);
            Check.same("COUNT of " + block, x.state(block, 2), 0);
        }
    }

    private static void inputsOfBlocksAreForgotten() {
        Check.sentence("and what their inputs were, are 0, as at first");
        Plc x = new Plc();
        x.block(3, 0, 0);
        x.block(4, 0, 0);
        x.block(2, 9, 7);
        Check.rung(x, 0, 0, 0, 9, 0, 10, 8);
        Check.rung(x, 1, 0, 0, 9, 1, 10, 9);
        Check.rung(x, 2, 0, 0, 9, 2);
        x.download();
        x.wire(0, 1);
        x.scan(2);
        Check.same("does not rise", x.out(8), 0);
        x.fail();
        x.scan(1);
        Check.same("rises anew", x.out(8), 1);
        Check.same("counted anew", x.state(2, 2), 1);
        x.fail();
        x.wire(0, 0);
        x.scan(1);
        Check.same("does not fall", x.out(9), 0);
    }

    private static void notStopped() {
        Check.sentence("it has not STOPPED");
        Plc x = new Plc();
        Check.rung(x, 0, 1, 0, 11, 25, 13, 0);
        x.download();
        Check.fails("loops", IllegalStateException.class, () -> x.scan(1));
        Check.same("fail", x.fail(), 1);
        Check.same("not stopped", x.count(2), 0);
        Check.same("failed scans", x.count(1), 1);
        Check.same("restart", x.restart(), 0);
        x.wire(0, 1);
        Check.same("scan", x.scan(1), 12);
        Plc divided = Check.stopped();
        divided.fail();
        Check.fails("divides by 0 again", ArithmeticException.class, () -> divided.scan(1));
        Check.same("failed scans", divided.count(1), 2);
    }

    private static void whatStays() {
        Check.sentence("registers, wires of inputs, forces, blocks, rungs and PROGRAM stay");
        Plc x = Check.busy();
        Plc y = x.again();
        x.fail();
        y.count(0);
        for (int i = 0; i < 8; i++) {
            Check.same("register " + i, x.register(i), y.register(i));
            Check.same("wire " + i, x.wire(i, 0), y.wire(i, 0));
            Check.same("kind of " + i, x.state(i, 0), y.state(i, 0));
        }
        for (int i : new int[] {0, 1, 3, 4, 5}) {
            Check.same("count " + i, x.count(i), y.count(i));
        }
        for (int i = 0; i < 32; i++) {
            Check.same("force of " + i, x.force(i, -1), y.force(i, -1));
        }
        for (int i = 5; i < 8; i++) {
            Check.same("factor of " + i, x.tune(i, 1, 1), y.tune(i, 1, 1));
        }
        Check.same("a rung's stack", x.step(4, 2, 0), 1);
        for (int i = 0; i < 12; i++) {
            Check.same("steps of rung " + i, x.erase(i), i == 4 ? 2 : y.erase(i));
        }
        x.wire(0, 1);
        x.scan(1);
        Check.same("the program runs: rung 11", x.bit(17), 1);
        Check.same("the program runs: rung 1", x.state(1, 2), 3);
        Check.same("offsets stay until they are tuned", x.register(1), 11.5);
    }

    private static void answersKeptBitsNotAsTheyRead() {
        Check.sentence("Answers how many KEPT bits are 1 (not as they read).");
        Plc x = new Plc();
        for (int bit = 24; bit < 32; bit++) {
            x.force(bit, 1);
        }
        Check.same("all read 1, none is", x.fail(), 0);
        Plc y = allOnes();
        for (int bit = 24; bit < 32; bit++) {
            y.force(bit, 0);
        }
        Check.same("all are 1, none reads so", y.fail(), 8);
        Check.same("forced bits", y.count(5), 8);
        for (int bit = 24; bit < 32; bit++) {
            Check.same("bit " + bit + " reads its force", y.bit(bit), 0);
            y.force(bit, -1);
            Check.same("bit " + bit + " was kept behind it", y.bit(bit), 1);
        }
        Plc z = allOnes();
        z.force(23, 1);
        z.force(24, 0);
        z.force(31, 1);
        Check.same("bit 23 is none of them", z.fail(), 8);
        Check.same("bit 23 reads its force", z.bit(23), 1);
        z.force(23, -1);
        Check.same("bit 23 itself is 0", z.bit(23), 0);
    }

    private static void everyNumberOfKeptBits() {
        Check.sentence("Answers how many KEPT bits are 1");
        for (int kept = 0; kept <= 8; kept++) {
            Plc x = new Plc();
            for (int i = 0; i < kept; i++) {
                Check.rung(x, i, 1, 0, 10, 31 - i);
            }
            x.download();
            x.scan(1);
            Check.same("fail", x.fail(), kept);
        }
    }

    private static void aNewObject() {
        Check.sentence("as at first");
        Plc x = new Plc();
        Plc y = new Plc();
        Check.same("fail", x.fail(), 0);
        y.count(0);
        Check.isTrue("a new object stays new", Probe.of(x).equals(Probe.of(y)));
    }
}
