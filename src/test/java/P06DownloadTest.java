/** Promise 6: download, and that a program can be changed while it runs. */
public final class P06DownloadTest {
    public static void main(String[] args) {
        LadderScan x = new LadderScan();
        Check.rung(x, 0, 1, 0, 10, 8);
        Check.rung(x, 11, 1, 0, 10, 15, 10, 16);
        x.scan(1);
        Check.same("nothing runs before", x.out(8), 0);
        Check.same("steps", x.count(4), 0);
        Check.same("download", x.download(), 5);
        Check.same("steps", x.count(4), 5);
        Check.same("bits stay until a scan", x.bit(8), 0);
        x.scan(1);
        Check.same("out(8)", x.out(8), 1);
        Check.same("out(15)", x.out(15), 1);
        x.step(0, 10, 9);
        x.scan(1);
        Check.same("a step after the download does not run", x.out(9), 0);
        Check.same("steps", x.count(4), 5);
        Check.same("download", x.download(), 6);
        x.scan(1);
        Check.same("now it runs", x.out(9), 1);
        aNewRungOfTheSameLength();
        blocksAndBitsStay();
        Check.end();
    }

    private static void aNewRungOfTheSameLength() {
        LadderScan x = new LadderScan();
        Check.rung(x, 0, 1, 0, 10, 8);
        x.download();
        x.erase(0);
        Check.rung(x, 0, 0, 0, 10, 9);
        x.scan(1);
        Check.same("the old rung runs", x.out(8), 1);
        x.download();
        x.wire(0, 1);
        x.scan(1);
        Check.same("the new rung runs", x.out(9), 1);
        Check.same("what the old one set stays", x.out(8), 1);
    }

    private static void blocksAndBitsStay() {
        LadderScan x = Check.through(0, 3, 0);
        Check.works(x, 1, 0, 1);
        Check.works(x, 1, 0, 2);
        Check.rung(x, 1, 1, 31, 11, 31);
        Check.same("download", x.download(), 5);
        Check.same("COUNT", x.state(0, 2), 2);
        Check.works(x, 1, 1, 3);
        Check.same("bit 31", x.bit(31), 1);
        x.download();
        Check.same("bit 31", x.bit(31), 1);
        Check.same("bit 0", x.bit(0), 1);
        Check.same("out(8)", x.out(8), 1);
        Check.same("output of the block", x.state(0, 1), 1);
    }
}
