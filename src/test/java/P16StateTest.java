import java.util.NoSuchElementException;

/** Promise 16: state. */
public final class P16StateTest {
    private static final Class<?> MISSING = NoSuchElementException.class;
    private static final Class<?> ARGUMENT = IllegalArgumentException.class;

    public static void main(String[] args) {
        kindOutputAndCount();
        everyKind();
        noSuchBlock();
        anotherWhat();
        orderOfTesting();
        Check.end();
    }

    private static void kindOutputAndCount() {
        Check.sentence("Of a block: its kind (0), output (1), COUNT (2).");
        Plc x = Check.through(1, 4, 0);
        x.block(7, 0, 0);
        Check.same("kind", x.state(0, 0), 1);
        Check.same("the other's kind", x.state(1, 0), 7);
        Check.works(x, new int[][] {{0, 0, 0}, {1, 1, 4}, {0, 1, 3}});
        Check.same("the other's output", x.state(1, 1), 0);
        Check.same("the other's COUNT", x.state(1, 2), 0);
        Check.same("kind still", x.state(0, 0), 1);
    }

    private static void everyKind() {
        Check.sentence("Of a block: its kind (0)");
        Plc x = new Plc();
        for (int i = 0; i < 10; i++) {
            x.block((i + 6) % 8, 1, 1);
        }
        for (int i = 0; i < 10; i++) {
            Check.same("kind of " + i, x.state(i, 0), (i + 6) % 8);
        }
    }

    private static void noSuchBlock() {
        Check.sentence("NoSuchElementException: no such block.");
        for (int block : new int[] {Integer.MIN_VALUE, -1, 8, 10, Integer.MAX_VALUE}) {
            for (int what = 0; what <= 2; what++) {
                int w = what;
                Check.refusesAlways("state(" + block + ", " + w + ")", MISSING, x -> x.state(block, w));
            }
        }
        Plc x = new Plc();
        for (int made = 0; made < 10; made++) {
            int next = made;
            Check.refuses("block " + next + " of " + made, x, MISSING, () -> x.state(next, 0));
            x.block(3, 0, 0);
            Check.same("once it is made", x.state(next, 0), 3);
        }
        Check.refuses("block 10 of 10", x, MISSING, () -> x.state(10, 0));
    }

    private static void anotherWhat() {
        Check.sentence("IllegalArgumentException: another what.");
        for (int what : new int[] {Integer.MIN_VALUE, -1, 3, Integer.MAX_VALUE}) {
            for (int block : new int[] {0, 7}) {
                Plc x = Check.busy();
                Check.refuses("state(" + block + ", " + what + ")", x, ARGUMENT, () -> x.state(block, what));
            }
        }
    }

    private static void orderOfTesting() {
        Check.sentence("What is thrown is told in the order of testing");
        for (int what : new int[] {-1, 3}) {
            for (int block : new int[] {-1, 8}) {
                Check.refusesAlways("state(" + block + ", " + what + ")", MISSING, x -> x.state(block, what));
            }
        }
    }
}
