/** Promise 7: wire. */
public final class P07WireTest {
    private static final Class<?> ARGUMENT = IllegalArgumentException.class;

    public static void main(String[] args) {
        LadderScan x = new LadderScan();
        for (int i = 0; i < 8; i++) {
            Check.same("wire", x.wire(i, 1), 0);
            Check.same("wire", x.wire(i, 1), 1);
            Check.same("wire", x.wire(i, 0), 1);
            Check.same("wire", x.wire(i, i % 2), 0);
        }
        Check.refuses("input -1", x, ARGUMENT, () -> x.wire(-1, 0));
        Check.refuses("input 8", x, ARGUMENT, () -> x.wire(8, 0));
        Check.refuses("value -1", x, ARGUMENT, () -> x.wire(1, -1));
        Check.refuses("value 2", x, ARGUMENT, () -> x.wire(1, 2));
        for (int i = 0; i < 8; i++) {
            Check.same("an input waits for the scan", x.bit(i), 0);
        }
        x.scan(1);
        for (int i = 0; i < 8; i++) {
            Check.same("taken in", x.bit(i), i % 2);
            x.wire(i, 1 - i % 2);
            Check.same("waits again", x.bit(i), i % 2);
        }
        x.scan(1);
        for (int i = 0; i < 8; i++) {
            Check.same("taken in", x.bit(i), 1 - i % 2);
        }
        Check.end();
    }
}
