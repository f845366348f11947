/** Promise 1: a new object is in the state that the terms give. */
public final class P01NewObjectTest {
    public static void main(String[] args) {
        LadderScan x = new LadderScan();
        for (int i = 0; i < 32; i++) {
            Check.same("bit " + i, x.bit(i), 0);
            Check.same("force of " + i, x.force(i, -1), -1);
        }
        for (int i = 0; i < 8; i++) {
            Check.same("out " + (8 + i), x.out(8 + i), 0);
            Check.same("register " + i, x.register(i), 0);
            Check.same("wire " + i, x.wire(i, 0), 0);
        }
        for (int i = 0; i < 6; i++) {
            Check.same("count " + i, x.count(i), 0);
        }
        for (int i = 0; i < 12; i++) {
            Check.same("erase " + i, x.erase(i), 0);
        }
        Check.same("restart", x.restart(), 0);
        Check.same("fail", x.fail(), 0);
        Check.same("an empty program has 12 rungs to begin", x.scan(1), 12);
        Check.same("download", x.download(), 0);
        Check.same("first block", x.block(5, 0, 0), 0);
        Check.same("first factor", x.tune(0, 1, 1), 0);
        objectsAreApart();
        Check.end();
    }

    private static void objectsAreApart() {
        LadderScan x = new LadderScan();
        LadderScan y = new LadderScan();
        x.put(0, 5);
        x.force(3, 1);
        x.block(3, 0, 0);
        x.step(0, 0, 0);
        Check.same("other's register", y.register(0), 0);
        Check.same("other's bit", y.bit(3), 0);
        Check.same("other's blocks", y.count(3), 0);
        Check.same("other's rung", y.erase(0), 0);
    }
}
