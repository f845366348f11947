/** Promises 13, 14 and 15: bit, out and register. */
public final class P13to15ReadingTest {
    private static final Class<?> ARGUMENT = IllegalArgumentException.class;

    public static void main(String[] args) {
        LadderScan x = new LadderScan();
        for (int wrong : new int[] {-1, 32, Integer.MIN_VALUE, Integer.MAX_VALUE}) {
            Check.refuses("bit " + wrong, x, ARGUMENT, () -> x.bit(wrong));
        }
        for (int wrong : new int[] {-1, 0, 7, 16, 31, 32, Integer.MIN_VALUE, Integer.MAX_VALUE}) {
            Check.refuses("out " + wrong, x, ARGUMENT, () -> x.out(wrong));
        }
        for (int wrong : new int[] {-1, 8, Integer.MIN_VALUE, Integer.MAX_VALUE}) {
            Check.refuses("register " + wrong, x, ARGUMENT, () -> x.register(wrong));
        }
        eachBitForItself();
        outIsTheWire();
        eachRegisterForItself();
        Check.end();
    }

    private static void eachBitForItself() {
        for (int set = 8; set < 32; set++) {
            LadderScan x = new LadderScan();
            Check.rung(x, 0, 1, 0, 10, set);
            x.download();
            x.scan(1);
            for (int i = 0; i < 32; i++) {
                Check.same("bit " + i + " after " + set, x.bit(i), i == set ? 1 : 0);
            }
            for (int i = 8; i < 16; i++) {
                Check.same("out " + i + " after " + set, x.out(i), i == set ? 1 : 0);
            }
        }
    }

    private static void outIsTheWire() {
        LadderScan x = new LadderScan();
        x.force(12, 1);
        Check.same("bit 12 reads 1", x.bit(12), 1);
        Check.same("its wire does not yet", x.out(12), 0);
        x.scan(1);
        Check.same("its wire does", x.out(12), 1);
        x.force(12, -1);
        Check.same("bit 12 reads 0", x.bit(12), 0);
        Check.same("its wire does not yet", x.out(12), 1);
        x.scan(1);
        Check.same("its wire does", x.out(12), 0);
    }

    private static void eachRegisterForItself() {
        LadderScan x = new LadderScan();
        for (int i = 0; i < 8; i++) {
            x.put(i, i * 1000 - 0.125);
        }
        for (int i = 0; i < 8; i++) {
            Check.same("register " + i, x.register(i), i * 1000 - 0.125);
        }
    }
}
