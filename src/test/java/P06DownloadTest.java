/** Promise 6: download, and that a program can be changed while it runs. */
public final class P06DownloadTest {
    public static void main(String[] args) {
        answersHowManySteps();
        emptyRungs();
        everyRungFull();
        theLastDownloadRuns();
        aNewRungOfTheSameLength();
        aShorterRung();
        aChangeBetweenScans();
        blocksAndBitsStay();
        itStaysStopped();
        Check.end();
    }

    private static void answersHowManySteps() {
        Check.sentence("The rungs become the PROGRAM ... Answers how many steps it has.");
        Plc x = new Plc();
        Check.rung(x, 0, 1, 0, 10, 8);
        Check.rung(x, 11, 1, 0, 10, 15, 10, 16);
        Check.same("steps before", x.count(4), 0);
        Check.same("download", x.download(), 5);
        Check.same("steps", x.count(4), 5);
        Check.same("download again", x.download(), 5);
        Check.same("bits wait for a scan", x.bit(8), 0);
        x.scan(1);
        Check.same("rung 0", x.out(8), 1);
        Check.same("rung 11", x.out(15), 1);
    }

    private static void emptyRungs() {
        Check.sentence("The rungs become the PROGRAM (all of them empty)");
        Plc x = new Plc();
        Check.same("download", x.download(), 0);
        Check.same("12 rungs are begun", x.scan(1), 12);
        Check.rung(x, 3, 1, 31, 10, 8, 13, 11);
        x.download();
        Check.same("rungs 0 .. 3 and 11", x.scan(1), 5);
        x.erase(3);
        Check.same("download", x.download(), 0);
        Check.same("steps", x.count(4), 0);
        Check.same("12 rungs are begun", x.scan(1), 12);
        Check.same("a bit that nothing sets stays", x.bit(8), 1);
        Check.same("and goes out", x.out(8), 1);
    }

    private static void everyRungFull() {
        Check.sentence("RUNGS 0 .. 11 each have up to 10 STEPS");
        Plc x = new Plc();
        for (int rung = 0; rung < 12; rung++) {
            Check.rung(x, rung, 1, 7, 2, 31, 4, 0, 5, 7, 3, 7, 10, 8 + rung, 10, 20 + rung, 2, 0, 4, 1, 11, 16);
        }
        Check.same("download", x.download(), 120);
        Check.same("steps", x.count(4), 120);
        x.wire(1, 1);
        Check.same("12 rungs are begun", x.scan(1), 12);
        for (int bit = 8; bit < 32; bit++) {
            Check.same("bit " + bit, x.bit(bit), 1);
        }
    }

    private static void theLastDownloadRuns() {
        Check.sentence("THE PROGRAM that runs is that of the last DOWNLOAD: the rungs as they were then");
        Plc x = new Plc();
        Check.rung(x, 0, 1, 31, 10, 8);
        x.scan(1);
        Check.same("nothing runs before", x.out(8), 0);
        x.download();
        x.step(0, 10, 9);
        x.scan(1);
        Check.same("the downloaded steps run", x.out(8), 1);
        Check.same("a step behind them does not", x.out(9), 0);
        Check.same("steps", x.count(4), 2);
        Check.same("download", x.download(), 3);
        x.scan(1);
        Check.same("now it runs", x.out(9), 1);
    }

    private static void aNewRungOfTheSameLength() {
        Plc x = new Plc();
        Check.rung(x, 0, 1, 0, 10, 8);
        x.download();
        x.erase(0);
        Check.rung(x, 0, 0, 0, 10, 9);
        x.scan(1);
        Check.same("the old rung runs", x.out(8), 1);
        x.download();
        x.wire(0, 1);
        x.scan(1);
        Check.same("the new rung runs", x.out(9), 1);
        Check.same("what the old one set stays", x.out(8), 1);
    }

    private static void aShorterRung() {
        Plc x = new Plc();
        Check.rung(x, 0, 1, 31, 10, 16, 10, 17, 10, 18);
        x.download();
        x.erase(0);
        Check.rung(x, 0, 1, 31, 10, 16);
        Check.same("download", x.download(), 2);
        x.scan(1);
        Check.same("bit 16", x.bit(16), 1);
        Check.same("a step that was erased", x.bit(17), 0);
        Check.same("a step that was erased", x.bit(18), 0);
    }

    private static void aChangeBetweenScans() {
        Check.sentence("a program changed while it runs");
        Plc x = Check.through(0, 10, 0);
        x.wire(0, 1);
        x.scan(4);
        x.erase(0);
        Check.rung(x, 7, 0, 0, 9, 0, 10, 15);
        x.download();
        x.scan(6);
        Check.same("the delay went on in another rung", x.state(0, 2), 10);
        Check.same("out(15)", x.out(15), 1);
        Check.same("scans", x.count(0), 10);
    }

    private static void blocksAndBitsStay() {
        Check.sentence("blocks and bits stay");
        Plc x = Check.busy();
        Plc y = x.again();
        x.download();
        y.count(0);
        for (int i = 0; i < 32; i++) {
            Check.same("bit " + i, x.bit(i), y.bit(i));
        }
        for (int i = 0; i < 8; i++) {
            Check.same("out " + (8 + i), x.out(8 + i), y.out(8 + i));
            Check.same("register " + i, x.register(i), y.register(i));
            Check.same("kind of " + i, x.state(i, 0), y.state(i, 0));
            Check.same("output of " + i, x.state(i, 1), y.state(i, 1));
            Check.same("COUNT of " + i, x.state(i, 2), y.state(i, 2));
        }
        Check.same("forces", x.count(5), 3);
        Check.same("rungs", x.erase(11), 10);
        Plc edge = Check.through(3, 0, 0);
        Check.works(edge, 1, 1, 0);
        edge.download();
        Check.works(edge, 1, 0, 0);
    }

    private static void itStaysStopped() {
        Check.sentence("With a failure the controller STOPS");
        Plc x = Check.stopped();
        x.erase(0);
        Check.same("download", x.download(), 0);
        Check.same("stopped", x.count(2), 1);
        Check.refuses("scan", x, IllegalStateException.class, () -> x.scan(1));
    }
}
