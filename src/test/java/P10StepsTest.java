/** Promise 10: what each step of a rung does in a scan. */
public final class P10StepsTest {
    public static void main(String[] args) {
        for (int values = 0; values < 4; values++) {
            contacts(values & 1, values >> 1);
        }
        joiningKeepsWhatIsBelow();
        registersAreCompared();
        coils();
        aRungBeginsWithAnEmptyStack();
        valuesBelowTheTopStay();
        onlyTheStepsOfTheRungAreDone();
        Check.end();
    }

    /** What comes of bit 0 being t, and the step being done with bit 1 being b. */
    private static int after(int op, int t, int b) {
        LadderScan x = new LadderScan();
        Check.rung(x, 0, 0, 0, op, 1, 10, 8);
        x.download();
        x.wire(0, t);
        x.wire(1, b);
        x.scan(1);
        return x.out(8);
    }

    private static int joined(int op, int t, int b) {
        LadderScan x = new LadderScan();
        Check.rung(x, 0, 0, 0, 0, 1, op, 0, 10, 8);
        x.download();
        x.wire(0, t);
        x.wire(1, b);
        x.scan(1);
        return x.out(8);
    }

    private static void contacts(int t, int b) {
        String with = " with " + t + ", " + b;
        Check.same("LOAD" + with, after(0, t, b), b);
        Check.same("LOAD NOT" + with, after(1, t, b), 1 - b);
        Check.same("AND" + with, after(2, t, b), t & b);
        Check.same("AND NOT" + with, after(3, t, b), t & (1 - b));
        Check.same("OR" + with, after(4, t, b), t | b);
        Check.same("OR NOT" + with, after(5, t, b), t | (1 - b));
        Check.same("AND of two" + with, joined(6, t, b), t & b);
        Check.same("OR of two" + with, joined(7, t, b), t | b);
    }

    /** Four values are pushed; every pair of joins must give what the values say. */
    private static void joiningKeepsWhatIsBelow() {
        for (int values = 0; values < 16; values++) {
            for (int ops = 0; ops < 8; ops++) {
                LadderScan x = new LadderScan();
                for (int i = 0; i < 4; i++) {
                    x.wire(i, values >> i & 1);
                    x.step(0, 0, i);
                }
                int due = values >> 3 & 1;
                for (int i = 0; i < 3; i++) {
                    int below = values >> (2 - i) & 1;
                    boolean and = (ops >> i & 1) == 0;
                    x.step(0, and ? 6 : 7, 0);
                    x.step(0, 10, 8 + i);
                    due = and ? due & below : due | below;
                    x.download();
                    x.scan(1);
                    Check.same("joined", x.out(8 + i), due);
                }
            }
        }
    }

    private static void registersAreCompared() {
        LadderScan x = new LadderScan();
        Check.rung(x, 0, 8, 2 * 8 + 5, 10, 8, 8, 5 * 8 + 2, 10, 9, 8, 2 * 8 + 2, 10, 10);
        Check.rung(x, 1, 8, 7, 10, 11, 8, 56, 10, 12);
        x.download();
        double[][] pairs = {{1, 2}, {2, 1}, {1, 1}, {-0.125, 0}, {0, -0.125}, {-8192, 8192}, {8192, -8192}};
        for (double[] pair : pairs) {
            x.put(2, pair[0]);
            x.put(5, pair[1]);
            x.put(0, pair[0]);
            x.put(7, pair[1]);
            x.scan(1);
            Check.same("2 above 5", x.out(8), pair[0] > pair[1] ? 1 : 0);
            Check.same("5 above 2", x.out(9), pair[1] > pair[0] ? 1 : 0);
            Check.same("2 above 2", x.out(10), 0);
            Check.same("0 above 7", x.out(11), pair[0] > pair[1] ? 1 : 0);
            Check.same("7 above 0", x.out(12), pair[1] > pair[0] ? 1 : 0);
        }
    }

    private static void coils() {
        LadderScan x = new LadderScan();
        Check.rung(x, 0, 0, 0, 10, 8, 11, 9, 10, 31, 2, 0, 10, 10);
        Check.rung(x, 1, 0, 1, 12, 9, 12, 31, 10, 16);
        x.download();
        int[][] rows = {{0, 0, 0, 0, 0}, {1, 0, 1, 1, 1}, {0, 0, 0, 1, 0}, {0, 1, 0, 0, 0}, {1, 1, 1, 0, 0}, {1, 0, 1, 1, 1}};
        for (int[] row : rows) {
            x.wire(0, row[0]);
            x.wire(1, row[1]);
            x.scan(1);
            Check.same("SET 8", x.out(8), row[2]);
            Check.same("LATCH 9, CLEAR 9", x.out(9), row[3]);
            Check.same("SET 31, CLEAR 31", x.bit(31), row[4]);
            Check.same("the top stays", x.out(10), row[0]);
            Check.same("the top stays", x.bit(16), row[1]);
        }
    }

    private static void aRungBeginsWithAnEmptyStack() {
        LadderScan x = new LadderScan();
        Check.rung(x, 0, 1, 31, 1, 31, 1, 31, 1, 31);
        Check.rung(x, 1, 0, 31, 0, 31, 7, 0, 10, 8);
        x.download();
        x.scan(1);
        Check.same("out(8)", x.out(8), 0);
    }

    /** Bit 0 lies below while each step that works on the top is done, and is then looked at by an OR with 0. */
    private static void valuesBelowTheTopStay() {
        for (int op = 0; op < 6; op++) {
            for (int values = 0; values < 8; values++) {
                LadderScan x = new LadderScan();
                Check.rung(x, 0, 0, 0, 0, 2, op, 1, 10, 16, 3, 16, 7, 0);
                if (op < 2) {
                    x.step(0, 7, 0);
                }
                x.step(0, 10, 8);
                x.download();
                x.wire(0, values & 1);
                x.wire(1, values >> 1 & 1);
                x.wire(2, values >> 2);
                x.scan(1);
                int below = op < 2 ? (values | values >> 2) & 1 : values & 1;
                Check.same("below op " + op + " with " + values, x.out(8), below);
            }
        }
    }

    private static void onlyTheStepsOfTheRungAreDone() {
        LadderScan x = new LadderScan();
        Check.rung(x, 0, 1, 31, 10, 16, 10, 17, 10, 18);
        Check.rung(x, 11, 1, 31, 10, 8, 10, 9, 10, 10, 10, 11, 10, 12, 10, 13, 10, 14, 10, 15, 10, 19);
        x.download();
        x.erase(0);
        Check.rung(x, 0, 1, 31, 10, 16);
        x.download();
        x.scan(1);
        Check.same("bit 16", x.bit(16), 1);
        Check.same("an erased step", x.bit(17), 0);
        Check.same("an erased step", x.bit(18), 0);
        for (int i = 8; i < 16; i++) {
            Check.same("out " + i, x.out(i), 1);
        }
        Check.same("the tenth step", x.bit(19), 1);
    }
}
