import java.util.NoSuchElementException;

/** Promise 1: a new object is in the state that the terms give. */
public final class P01NewObjectTest {
    public static void main(String[] args) {
        allAreZero();
        nothingIsForced();
        noBlocks();
        noProgram();
        rungsAndStacksAreEmpty();
        notStopped();
        objectsAreApart();
        Check.end();
    }

    private static void allAreZero() {
        Check.sentence("All are 0 at first.");
        Plc x = new Plc();
        for (int i = 0; i < 32; i++) {
            Check.same("bit " + i, x.bit(i), 0);
        }
        for (int i = 0; i < 8; i++) {
            Check.same("register " + i, x.register(i), 0);
            Check.same("wire of output " + (8 + i), x.out(8 + i), 0);
        }
        Check.sentence("each INPUT becomes what is on its wire (0 at first)");
        for (int i = 0; i < 8; i++) {
            Check.same("wire of input " + i, x.wire(i, 0), 0);
        }
    }

    private static void nothingIsForced() {
        Check.sentence("what it was forced to, or -1");
        Plc x = new Plc();
        Check.same("forced bits", x.count(5), 0);
        for (int i = 0; i < 32; i++) {
            Check.same("force of " + i, x.force(i, -1), -1);
        }
    }

    private static void noBlocks() {
        Check.sentence("BLOCKS 0 .. 9 are numbered as they are made");
        Plc x = new Plc();
        Check.same("blocks", x.count(3), 0);
        Check.refuses("state(0, 0)", x, NoSuchElementException.class, () -> x.state(0, 0));
        Check.same("first block", x.block(5, 0, 0), 0);
    }

    private static void noProgram() {
        Check.sentence("THE PROGRAM that runs is that of the last DOWNLOAD: the rungs as they were then; none at first.");
        Plc x = new Plc();
        Check.same("steps of the program", x.count(4), 0);
        Check.rung(x, 0, 1, 0, 10, 8);
        Check.same("12 rungs are begun, all empty", x.scan(1), 12);
        Check.same("out(8)", x.out(8), 0);
        Check.same("bit(8)", x.bit(8), 0);
    }

    private static void rungsAndStacksAreEmpty() {
        Check.sentence("which work on a stack of at most 4 values 0 or 1, empty at first");
        for (int rung = 0; rung < 12; rung++) {
            Plc x = new Plc();
            int r = rung;
            Check.refuses("AND in rung " + r, x, UnsupportedOperationException.class, () -> x.step(r, 2, 0));
            Check.same("steps of rung " + r, x.erase(r), 0);
            Check.same("LOAD in rung " + r, x.step(r, 0, 0), 1);
        }
    }

    private static void notStopped() {
        Check.sentence("Scans made in full (0), scans that failed (1), 1 if it has STOPPED, else 0 (2)");
        Plc x = new Plc();
        Check.same("scans made", x.count(0), 0);
        Check.same("scans failed", x.count(1), 0);
        Check.same("stopped", x.count(2), 0);
        Check.same("restart", x.restart(), 0);
        Check.same("fail", x.fail(), 0);
        Check.same("download", x.download(), 0);
    }

    private static void objectsAreApart() {
        Check.sentence("LadderScan(): makes an object");
        Plc x = Check.busy();
        Plc y = new Plc();
        Check.isTrue("another object is new", Probe.of(y).equals(Probe.of(new Plc())));
        Check.same("the first one's scans", x.count(0), 2);
        Check.same("the first one's blocks", x.count(3), 8);
    }
}
