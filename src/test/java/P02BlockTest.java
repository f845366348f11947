/** Promise 2: block. */
public final class P02BlockTest {
    private static final Class<?> ARGUMENT = IllegalArgumentException.class;
    private static final Class<?> STATE = IllegalStateException.class;

    public static void main(String[] args) {
        edgesAreTaken();
        uselessNumbersMayBeAnything();
        LadderScan x = new LadderScan();
        wrongOnes(x);
        for (int i = 0; i < 10; i++) {
            Check.same("number", x.block(i % 8, 7, 7), i);
            Check.same("kind", x.state(i, 0), i % 8);
            Check.same("blocks", x.count(3), i + 1);
        }
        Check.refuses("an 11th block", x, STATE, () -> x.block(0, 1, 0));
        Check.refuses("an 11th of kind 3", x, STATE, () -> x.block(3, -1, -1));
        wrongOnes(x);
        Check.end();
    }

    private static void edgesAreTaken() {
        LadderScan x = new LadderScan();
        Check.same("on-delay 1", x.block(0, 1, 0), 0);
        Check.same("on-delay 100", x.block(0, 100, 0), 1);
        Check.same("counter reset by 31", x.block(2, 100, 31), 2);
        Check.same("counter reset by 0", x.block(2, 1, 0), 3);
        Check.same("scale", x.block(5, 0, 7), 4);
        Check.same("divide", x.block(6, 7, 0), 5);
        Check.same("limit", x.block(7, 7, 7), 6);
        Check.same("off-delay 1", x.block(1, 1, 0), 7);
        Check.same("off-delay 100", x.block(1, 100, 0), 8);
    }

    private static void uselessNumbersMayBeAnything() {
        LadderScan x = new LadderScan();
        Check.same("q of on-delay", x.block(0, 1, Integer.MIN_VALUE), 0);
        Check.same("q of off-delay", x.block(1, 1, Integer.MAX_VALUE), 1);
        Check.same("p, q of rising", x.block(3, Integer.MIN_VALUE, Integer.MAX_VALUE), 2);
        Check.same("p, q of falling", x.block(4, -1, 1000), 3);
    }

    private static void wrongOnes(LadderScan x) {
        Check.refuses("kind -1", x, ARGUMENT, () -> x.block(-1, 1, 1));
        Check.refuses("kind 8", x, ARGUMENT, () -> x.block(8, 1, 1));
        for (int kind = 0; kind <= 2; kind++) {
            int k = kind;
            Check.refuses("p 0", x, ARGUMENT, () -> x.block(k, 0, 1));
            Check.refuses("p 101", x, ARGUMENT, () -> x.block(k, 101, 1));
        }
        Check.refuses("q -1 of a counter", x, ARGUMENT, () -> x.block(2, 1, -1));
        Check.refuses("q 32 of a counter", x, ARGUMENT, () -> x.block(2, 1, 32));
        for (int kind = 5; kind <= 7; kind++) {
            int k = kind;
            Check.refuses("p -1", x, ARGUMENT, () -> x.block(k, -1, 1));
            Check.refuses("p 8", x, ARGUMENT, () -> x.block(k, 8, 1));
            Check.refuses("q -1", x, ARGUMENT, () -> x.block(k, 1, -1));
            Check.refuses("q 8", x, ARGUMENT, () -> x.block(k, 1, 8));
        }
    }
}
