/** Promise 17: count. */
public final class P17CountTest {
    private static final Class<?> ARGUMENT = IllegalArgumentException.class;

    public static void main(String[] args) {
        LadderScan x = new LadderScan();
        Check.refuses("what -1", x, ARGUMENT, () -> x.count(-1));
        Check.refuses("what 6", x, ARGUMENT, () -> x.count(6));
        counts(x, 0, 0, 0, 0, 0, 0);
        x.scan(5);
        x.block(3, 0, 0);
        x.block(4, 0, 0);
        Check.rung(x, 0, 0, 0, 13, 0);
        Check.rung(x, 11, 0, 0);
        counts(x, 5, 0, 0, 2, 0, 0);
        x.download();
        x.force(0, 1);
        x.force(31, 0);
        x.force(16, 0);
        counts(x, 5, 0, 0, 2, 3, 3);
        Check.throwsOnly("loops", IllegalStateException.class, () -> x.scan(1));
        counts(x, 5, 1, 1, 2, 3, 3);
        x.restart();
        Check.throwsOnly("loops", IllegalStateException.class, () -> x.scan(1));
        counts(x, 5, 2, 1, 2, 3, 3);
        x.erase(0);
        x.force(0, -1);
        counts(x, 5, 2, 1, 2, 3, 2);
        x.fail();
        counts(x, 5, 2, 0, 2, 3, 2);
        x.download();
        x.scan(20);
        counts(x, 25, 2, 0, 2, 1, 2);
        Check.end();
    }

    private static void counts(LadderScan x, int... due) {
        for (int i = 0; i < due.length; i++) {
            Check.same("count " + i, x.count(i), due[i]);
        }
    }
}
