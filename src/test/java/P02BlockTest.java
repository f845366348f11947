/** Promise 2: block. */
public final class P02BlockTest {
    private static final Class<?> ARGUMENT = IllegalArgumentException.class;
    private static final Class<?> STATE = IllegalStateException.class;
    private static final int LEAST = Integer.MIN_VALUE;
    private static final int MOST = Integer.MAX_VALUE;

    public static void main(String[] args) {
        answersItsNumber();
        kindIsZeroToSeven();
        pOfDelaysAndCounters();
        pOfNumberBlocks();
        qOfCounters();
        qOfNumberBlocks();
        tenWereMade();
        argumentsAreTestedFirst();
        uselessNumbersMayBeAnything();
        aRefusedBlockTakesNoNumber();
        outputAndCountAreZero();
        Check.end();
    }

    private static void answersItsNumber() {
        Check.sentence("Makes a block; answers its number.");
        Plc x = new Plc();
        for (int i = 0; i < 10; i++) {
            Check.same("number", x.block(i % 8, 7, 7), i);
            Check.same("kind", x.state(i, 0), i % 8);
            Check.same("blocks", x.count(3), i + 1);
        }
        for (int i = 0; i < 10; i++) {
            Check.same("kind still", x.state(i, 0), i % 8);
        }
    }

    private static void kindIsZeroToSeven() {
        Check.sentence("kind not 0 .. 7");
        for (int kind : new int[] {LEAST, -1, 8, MOST}) {
            Check.refusesAlways("kind " + kind, ARGUMENT, x -> x.block(kind, 1, 1));
        }
        Check.same("kind 0", new Plc().block(0, 1, 1), 0);
        Check.same("kind 7", new Plc().block(7, 1, 1), 0);
    }

    private static void pOfDelaysAndCounters() {
        Check.sentence("p not 1 .. 100 (0 to 2)");
        for (int kind = 0; kind <= 2; kind++) {
            int k = kind;
            for (int p : new int[] {LEAST, -1, 0, 101, MOST}) {
                Check.refusesAlways("kind " + k + ", p " + p, ARGUMENT, x -> x.block(k, p, 1));
            }
            Check.same("p 1", new Plc().block(k, 1, 1), 0);
            Check.same("p 100", new Plc().block(k, 100, 1), 0);
        }
    }

    private static void pOfNumberBlocks() {
        Check.sentence("p not ... 0 .. 7 (5 to 7)");
        for (int kind = 5; kind <= 7; kind++) {
            int k = kind;
            for (int p : new int[] {LEAST, -1, 8, MOST}) {
                Check.refusesAlways("kind " + k + ", p " + p, ARGUMENT, x -> x.block(k, p, 1));
            }
            Check.same("p 0", new Plc().block(k, 0, 1), 0);
            Check.same("p 7", new Plc().block(k, 7, 1), 0);
        }
    }

    private static void qOfCounters() {
        Check.sentence("q not 0 .. 31 (2)");
        for (int q : new int[] {LEAST, -1, 32, MOST}) {
            Check.refusesAlways("q " + q, ARGUMENT, x -> x.block(2, 1, q));
        }
        Check.same("q 0", new Plc().block(2, 1, 0), 0);
        Check.same("q 31", new Plc().block(2, 1, 31), 0);
    }

    private static void qOfNumberBlocks() {
        Check.sentence("q not ... 0 .. 7 (5 to 7)");
        for (int kind = 5; kind <= 7; kind++) {
            int k = kind;
            for (int q : new int[] {LEAST, -1, 8, MOST}) {
                Check.refusesAlways("kind " + k + ", q " + q, ARGUMENT, x -> x.block(k, 1, q));
            }
            Check.same("q 0", new Plc().block(k, 1, 0), 0);
            Check.same("q 7", new Plc().block(k, 1, 7), 0);
        }
    }

    private static Plc withTen() {
        Plc x = Check.busy();
        Check.same("the 9th", x.block(0, 1, 0), 8);
        Check.same("the 10th", x.block(3, 0, 0), 9);
        return x;
    }

    private static void tenWereMade() {
        Check.sentence("IllegalStateException: 10 were made.");
        for (int kind = 0; kind < 8; kind++) {
            int k = kind;
            Plc x = withTen();
            Check.refuses("an 11th of kind " + k, x, STATE, () -> x.block(k, 1, 1));
            Check.same("blocks", x.count(3), 10);
            Check.same("the 10th is what it was", x.state(9, 0), 3);
        }
        Plc x = withTen();
        x.fail();
        Check.refuses("behind a power failure", x, STATE, () -> x.block(0, 1, 0));
    }

    private static void argumentsAreTestedFirst() {
        Check.sentence("What is thrown is told in the order of testing");
        int[][] wrong = {{-1, 1, 1}, {8, 1, 1}, {0, 0, 0}, {1, 101, 0}, {2, 1, 32}, {5, 8, 0}, {6, 0, -1}, {7, 0, 8}};
        for (int[] row : wrong) {
            Plc x = withTen();
            Check.refuses("a wrong 11th of kind " + row[0], x, ARGUMENT, () -> x.block(row[0], row[1], row[2]));
        }
    }

    private static void uselessNumbersMayBeAnything() {
        Check.sentence("What a kind has no use for may be anything.");
        for (int any : new int[] {LEAST, -1, 0, 101, MOST}) {
            Plc x = new Plc();
            Check.same("q of an on-delay", x.block(0, 1, any), 0);
            Check.same("q of an off-delay", x.block(1, 1, any), 1);
            Check.same("p of RISING", x.block(3, any, 0), 2);
            Check.same("q of RISING", x.block(3, 0, any), 3);
            Check.same("p of FALLING", x.block(4, any, 0), 4);
            Check.same("q of FALLING", x.block(4, 0, any), 5);
            for (int block = 0; block < 6; block++) {
                Check.rung(x, block, 0, 0, 9, block, 10, 8 + block);
            }
            x.download();
            x.wire(0, 1);
            Check.same("they work", x.scan(1), 12);
            for (int block = 0; block < 6; block++) {
                Check.same("output of " + block, x.out(8 + block), block < 4 ? 1 : 0);
            }
        }
    }

    private static void aRefusedBlockTakesNoNumber() {
        Check.sentence("a call that throws changes nothing");
        Plc x = new Plc();
        for (int i = 0; i < 10; i++) {
            Check.refuses("p 0", x, ARGUMENT, () -> x.block(0, 0, 0));
            Check.same("number", x.block(4, 0, 0), i);
        }
    }

    private static void outputAndCountAreZero() {
        Check.sentence("each has an OUTPUT (0 or 1) and a COUNT, 0 at first");
        for (int kind = 0; kind < 8; kind++) {
            Plc x = new Plc();
            x.block(kind, 7, 7);
            Check.same("output", x.state(0, 1), 0);
            Check.same("COUNT", x.state(0, 2), 0);
        }
    }
}
