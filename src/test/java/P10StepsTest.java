/** Promise 10: what each step of a rung does in a scan. */
public final class P10StepsTest {
    public static void main(String[] args) {
        for (int values = 0; values < 4; values++) {
            contacts(values & 1, values >> 1);
        }
        firstAndLastBit();
        joiningKeepsWhatIsBelow();
        registersAreCompared();
        everyPairOfRegisters();
        theTopBecomesTheOutput();
        setLatchClear();
        coilsOfTheFirstAndTheLastBit();
        theTopStays();
        aRungBeginsWithAnEmptyStack();
        valuesBelowTheTopStay();
        theTenthStep();
        Check.end();
    }

    /** What comes of bit 0 being t, and the step being done with bit 1 being b. */
    private static int after(int op, int t, int b) {
        Plc x = new Plc();
        Check.rung(x, 0, 0, 0, op, 1, 10, 8);
        x.download();
        x.wire(0, t);
        x.wire(1, b);
        x.scan(1);
        return x.out(8);
    }

    private static int joined(int op, int t, int b) {
        Plc x = new Plc();
        Check.rung(x, 0, 0, 0, 0, 1, op, 0, 10, 8);
        x.download();
        x.wire(0, t);
        x.wire(1, b);
        x.scan(1);
        return x.out(8);
    }

    private static void contacts(int t, int b) {
        String with = " with " + t + ", " + b;
        Check.sentence("0 LOAD the bit a: pushed. 1 LOAD NOT.");
        Check.same("LOAD" + with, after(0, t, b), b);
        Check.same("LOAD NOT" + with, after(1, t, b), 1 - b);
        Check.sentence("2 AND the top with the bit a, 3 with its opposite.");
        Check.same("AND" + with, after(2, t, b), t & b);
        Check.same("AND NOT" + with, after(3, t, b), t & (1 - b));
        Check.sentence("4 OR the top with the bit a, 5 with its opposite.");
        Check.same("OR" + with, after(4, t, b), t | b);
        Check.same("OR NOT" + with, after(5, t, b), t | (1 - b));
        Check.sentence("6 AND, 7 OR of the two at the top, which become one.");
        Check.same("AND of two" + with, joined(6, t, b), t & b);
        Check.same("OR of two" + with, joined(7, t, b), t | b);
    }

    private static void firstAndLastBit() {
        Check.sentence("BITS 0 .. 31: 0 to 7 INPUTS, 8 to 15 OUTPUTS, 16 to 31 MARKERS");
        for (int bit : new int[] {0, 7, 8, 15, 16, 23, 24, 31}) {
            for (int force = 0; force <= 1; force++) {
                Plc x = new Plc();
                int other = bit == 31 ? 30 : 31;
                Check.rung(x, 0, 0, bit, 10, 9, 1, bit, 10, 10);
                Check.rung(x, 1, 1, other, 2, bit, 10, 11, 1, other, 3, bit, 10, 12);
                Check.rung(x, 2, 0, other, 4, bit, 10, 13, 0, other, 5, bit, 10, 14);
                x.download();
                x.force(bit, force);
                x.scan(1);
                for (int op = 0; op < 6; op++) {
                    Check.same("op " + op + " with bit " + bit, x.out(9 + op), op % 2 == 0 ? force : 1 - force);
                }
            }
        }
    }

    /** Four values are pushed; every row of three joins must give what the values say. */
    private static void joiningKeepsWhatIsBelow() {
        Check.sentence("which work on a stack of at most 4 values 0 or 1");
        for (int values = 0; values < 16; values++) {
            for (int ops = 0; ops < 8; ops++) {
                Plc x = new Plc();
                for (int i = 0; i < 4; i++) {
                    x.wire(i, values >> i & 1);
                    x.step(0, 0, i);
                }
                int due = values >> 3 & 1;
                for (int i = 0; i < 3; i++) {
                    int below = values >> (2 - i) & 1;
                    boolean and = (ops >> i & 1) == 0;
                    x.step(0, and ? 6 : 7, 0);
                    x.step(0, 10, 8 + i);
                    due = and ? due & below : due | below;
                    x.download();
                    x.scan(1);
                    Check.same("joined", x.out(8 + i), due);
                }
            }
        }
    }

    private static void registersAreCompared() {
        Check.sentence("8 ABOVE: pushes 1 if register a / 8 is above register a mod 8 (a 0 .. 63), else 0.");
        Plc x = new Plc();
        Check.rung(x, 0, 8, 2 * 8 + 5, 10, 8, 8, 5 * 8 + 2, 10, 9, 8, 2 * 8 + 2, 10, 10);
        x.download();
        double[][] pairs = {{1, 2}, {2, 1}, {1, 1}, {1, 1.125}, {1.125, 1}, {-0.125, 0}, {0, -0.125}, {-8192, 8192},
            {8192, -8192}, {8192, 8192}, {-8192, -8192}};
        for (double[] pair : pairs) {
            x.put(2, pair[0]);
            x.put(5, pair[1]);
            x.scan(1);
            Check.same(pair[0] + " above " + pair[1], x.out(8), pair[0] > pair[1] ? 1 : 0);
            Check.same(pair[1] + " above " + pair[0], x.out(9), pair[1] > pair[0] ? 1 : 0);
            Check.same(pair[0] + " above itself", x.out(10), 0);
        }
    }

    private static void everyPairOfRegisters() {
        Check.sentence("8 ABOVE ... (a 0 .. 63)");
        double[] numbers = {3, -1, 8192, 0.125, 0, -8192, 3, 3.125};
        for (int a = 0; a < 64; a++) {
            Plc x = new Plc();
            for (int i = 0; i < 8; i++) {
                x.put(i, numbers[i]);
            }
            Check.rung(x, 0, 8, a, 10, 8);
            x.download();
            x.scan(1);
            Check.same("a " + a, x.out(8), numbers[a / 8] > numbers[a % 8] ? 1 : 0);
        }
    }

    private static void theTopBecomesTheOutput() {
        Check.sentence("9 BLOCK a works with the top, which becomes its output.");
        Plc x = new Plc();
        for (int i = 0; i < 10; i++) {
            x.block(i == 9 ? 4 : 3, 0, 0);
        }
        Check.rung(x, 0, 0, 0, 9, 0, 10, 8, 0, 0, 9, 9, 10, 9);
        x.download();
        int[][] rows = {{1, 1, 0}, {1, 0, 0}, {0, 0, 1}, {0, 0, 0}};
        for (int[] row : rows) {
            x.wire(0, row[0]);
            x.scan(1);
            Check.same("the first block", x.out(8), row[1]);
            Check.same("the last block", x.out(9), row[2]);
        }
    }

    private static void setLatchClear() {
        Check.sentence("10 SET: bit a becomes the top ... 11 LATCH: it becomes 1 if the top is 1. 12 CLEAR: it becomes 0 if the top is 1.");
        Plc x = new Plc();
        Check.rung(x, 0, 0, 0, 10, 8, 11, 9, 10, 31);
        Check.rung(x, 1, 0, 1, 12, 9, 12, 31);
        x.download();
        int[][] rows = {{0, 0, 0, 0, 0}, {1, 0, 1, 1, 1}, {0, 0, 0, 1, 0}, {0, 1, 0, 0, 0}, {1, 1, 1, 0, 0}, {1, 0, 1, 1, 1}};
        for (int[] row : rows) {
            x.wire(0, row[0]);
            x.wire(1, row[1]);
            x.scan(1);
            Check.same("SET 8", x.out(8), row[2]);
            Check.same("LATCH 9, CLEAR 9", x.out(9), row[3]);
            Check.same("SET 31, CLEAR 31", x.bit(31), row[4]);
        }
    }

    private static void coilsOfTheFirstAndTheLastBit() {
        Check.sentence("(10 to 12: a is 8 .. 31.)");
        for (int bit : new int[] {8, 15, 16, 23, 24, 31}) {
            Plc x = new Plc();
            Check.rung(x, 0, 0, 0, 11, bit, 0, 1, 12, bit);
            x.download();
            int[][] rows = {{0, 0, 0}, {1, 0, 1}, {0, 0, 1}, {0, 1, 0}, {1, 1, 0}, {1, 0, 1}};
            for (int[] row : rows) {
                x.wire(0, row[0]);
                x.wire(1, row[1]);
                x.scan(1);
                Check.same("LATCH, CLEAR " + bit, x.bit(bit), row[2]);
            }
            x.erase(0);
            Check.rung(x, 0, 0, 0, 10, bit);
            x.download();
            for (int value : new int[] {1, 0, 0, 1}) {
                x.wire(0, value);
                x.scan(1);
                Check.same("SET " + bit, x.bit(bit), value);
            }
        }
    }

    private static void theTopStays() {
        Check.sentence("10 SET: bit a becomes the top, which stays.");
        for (int op = 10; op <= 12; op++) {
            for (int top = 0; top <= 1; top++) {
                Plc x = new Plc();
                Check.rung(x, 0, 0, 0, op, 16, 10, 8);
                x.download();
                x.wire(0, top);
                x.scan(1);
                Check.same("behind op " + op, x.out(8), top);
            }
        }
    }

    private static void aRungBeginsWithAnEmptyStack() {
        Check.sentence("a stack of at most 4 values 0 or 1, empty at first");
        Plc x = new Plc();
        Check.rung(x, 0, 1, 31, 1, 31, 1, 31, 1, 31);
        Check.rung(x, 1, 0, 31, 0, 31, 7, 0, 10, 8);
        x.download();
        x.scan(1);
        Check.same("out(8)", x.out(8), 0);
    }

    /** Bit 0 lies below while each step that works on the top is done, and is then looked at by an OR with 0. */
    private static void valuesBelowTheTopStay() {
        Check.sentence("2 AND the top ... 4 OR the top (what is below it stays)");
        for (int op = 0; op < 6; op++) {
            for (int values = 0; values < 8; values++) {
                Plc x = new Plc();
                Check.rung(x, 0, 0, 0, 0, 2, op, 1, 10, 16, 3, 16, 7, 0);
                if (op < 2) {
                    x.step(0, 7, 0);
                }
                x.step(0, 10, 8);
                x.download();
                x.wire(0, values & 1);
                x.wire(1, values >> 1 & 1);
                x.wire(2, values >> 2);
                x.scan(1);
                int below = op < 2 ? (values | values >> 2) & 1 : values & 1;
                Check.same("below op " + op + " with " + values, x.out(8), below);
            }
        }
    }

    private static void theTenthStep() {
        Check.sentence("RUNGS 0 .. 11 each have up to 10 STEPS (op, a)");
        for (int rung : new int[] {0, 11}) {
            Plc x = new Plc();
            Check.rung(x, rung, 1, 31, 10, 8, 10, 9, 10, 10, 10, 11, 10, 12, 10, 13, 10, 14, 10, 15, 10, 19);
            x.download();
            x.scan(1);
            for (int i = 8; i < 16; i++) {
                Check.same("out " + i, x.out(i), 1);
            }
            Check.same("the tenth step of rung " + rung, x.bit(19), 1);
        }
    }
}
