import java.util.NoSuchElementException;

/** Promise 16: state. */
public final class P16StateTest {
    private static final Class<?> MISSING = NoSuchElementException.class;
    private static final Class<?> ARGUMENT = IllegalArgumentException.class;

    public static void main(String[] args) {
        LadderScan x = Check.through(1, 4, 0);
        x.block(7, 0, 0);
        Check.refuses("block -1", x, MISSING, () -> x.state(-1, 0));
        Check.refuses("block 2", x, MISSING, () -> x.state(2, 0));
        Check.refuses("block 2, what 3", x, MISSING, () -> x.state(2, 3));
        Check.refuses("block 10", x, MISSING, () -> x.state(10, 0));
        Check.refuses("block 0, what -1", x, ARGUMENT, () -> x.state(0, -1));
        Check.refuses("block 0, what 3", x, ARGUMENT, () -> x.state(0, 3));
        Check.same("kind", x.state(0, 0), 1);
        Check.same("kind", x.state(1, 0), 7);
        Check.works(x, 0, 0, 0);
        Check.works(x, 1, 1, 4);
        Check.works(x, 0, 1, 3);
        Check.same("the other's output", x.state(1, 1), 0);
        Check.same("the other's COUNT", x.state(1, 2), 0);
        Check.same("kind still", x.state(0, 0), 1);
        Check.end();
    }
}
