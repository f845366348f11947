/** Promise 4: step. */
public final class P04StepTest {
    private static final Class<?> ARGUMENT = IllegalArgumentException.class;
    private static final Class<?> UNSUPPORTED = UnsupportedOperationException.class;
    private static final Class<?> STATE = IllegalStateException.class;
    private static final int LEAST = Integer.MIN_VALUE;
    private static final int MOST = Integer.MAX_VALUE;

    /** By op: the values it needs, and how many more there are behind it. */
    private static final int[] NEEDED = {0, 0, 1, 1, 1, 1, 2, 2, 0, 1, 1, 1, 1, 1};
    private static final int[] GROWTH = {1, 1, 0, 0, 0, 0, -1, -1, 1, 0, 0, 0, 0, 0};

    public static void main(String[] args) {
        answersTheValuesOnTheStack();
        rungIsZeroToEleven();
        opIsZeroToThirteen();
        bitsOfContacts();
        pairsOfRegisters();
        blocksThatWereMade();
        bitsOfCoils();
        rungsOfJumps();
        joinsTakeAnything();
        notWhatItNeeds();
        tooManyCome();
        tenSteps();
        orderOfTesting();
        theStackIsAsItThenIs();
        Check.end();
    }

    /** An operand that the op takes in a rung where block 0 was made. */
    private static int operand(int op) {
        return op >= 10 && op <= 12 ? 8 : 0;
    }

    /** Block 0 made, rung 5 with so many values on its stack. */
    private static Plc withValues(int values) {
        Plc x = new Plc();
        x.block(3, 0, 0);
        for (int i = 0; i < values; i++) {
            x.step(5, i % 2 == 0 ? 0 : 8, 1);
        }
        return x;
    }

    private static void answersTheValuesOnTheStack() {
        Check.sentence("Adds a step to a rung; answers how many values are on its stack then.");
        for (int op = 0; op < 14; op++) {
            for (int values = NEEDED[op]; values <= 4 - Math.max(0, GROWTH[op]); values++) {
                Plc x = withValues(values);
                Check.same("op " + op + " at " + values, x.step(5, op, operand(op)), values + GROWTH[op]);
                Check.same("steps", x.erase(5), values + 1);
            }
        }
    }

    private static void rungIsZeroToEleven() {
        Check.sentence("rung not 0 .. 11");
        for (int rung : new int[] {LEAST, -1, 12, MOST}) {
            Check.refusesAlways("rung " + rung, ARGUMENT, x -> x.step(rung, 0, 0));
        }
        for (int rung : new int[] {0, 11}) {
            Plc x = new Plc();
            Check.same("rung " + rung, x.step(rung, 0, 0), 1);
            Check.same("its steps", x.erase(rung), 1);
        }
    }

    private static void opIsZeroToThirteen() {
        Check.sentence("op not 0 .. 13");
        for (int op : new int[] {LEAST, -1, 14, MOST}) {
            Check.refusesAlways("op " + op, ARGUMENT, x -> x.step(4, op, 8));
        }
        Check.same("op 0", withValues(1).step(5, 0, 8), 2);
        Check.same("op 13", withValues(1).step(5, 13, 8), 1);
    }

    /** Wrong operands are refused whether or not the stack has what the step needs; the ends are taken. */
    private static void operands(int op, int least, int most) {
        for (int a : new int[] {LEAST, least - 1, most + 1, MOST}) {
            for (int values = 0; values <= 4; values += 2) {
                Plc x = withValues(values);
                Check.refuses("op " + op + ", a " + a + " at " + values, x, ARGUMENT, () -> x.step(5, op, a));
            }
            Check.refusesAlways("op " + op + ", a " + a, ARGUMENT, x -> x.step(4, op, a));
        }
        Check.same("op " + op + ", a " + least, withValues(2).step(5, op, least), 2 + GROWTH[op]);
        Check.same("op " + op + ", a " + most, withValues(2).step(5, op, most), 2 + GROWTH[op]);
    }

    private static void bitsOfContacts() {
        Check.sentence("a not 0 .. 31 (0 to 5)");
        for (int op = 0; op <= 5; op++) {
            operands(op, 0, 31);
        }
    }

    private static void pairsOfRegisters() {
        Check.sentence("a not ... 0 .. 63 (8)");
        operands(8, 0, 63);
    }

    private static void blocksThatWereMade() {
        Check.sentence("a not ... a block that was made (9)");
        Plc none = new Plc();
        none.step(0, 0, 0);
        Check.refuses("block 0 of none", none, ARGUMENT, () -> none.step(0, 9, 0));
        Plc x = new Plc();
        x.step(0, 0, 0);
        for (int made = 1; made <= 9; made++) {
            x.block(3, 0, 0);
            Check.same("the last one made", x.step(0, 9, made - 1), 1);
            int next = made;
            Check.refuses("block " + next + " of " + made, x, ARGUMENT, () -> x.step(0, 9, next));
        }
        Plc ten = withValues(1);
        for (int i = 1; i < 10; i++) {
            ten.block(3, 0, 0);
        }
        Check.same("block 9 of 10", ten.step(5, 9, 9), 1);
        for (int a : new int[] {LEAST, -1, 10, MOST}) {
            Check.refuses("block " + a + " of 10", ten, ARGUMENT, () -> ten.step(5, 9, a));
        }
    }

    private static void bitsOfCoils() {
        Check.sentence("a not ... 8 .. 31 (10 to 12)");
        for (int op = 10; op <= 12; op++) {
            operands(op, 8, 31);
        }
    }

    private static void rungsOfJumps() {
        Check.sentence("a not ... a rung (13)");
        operands(13, 0, 11);
    }

    private static void joinsTakeAnything() {
        Check.sentence("6 AND, 7 OR of the two at the top, which become one.");
        for (int op = 6; op <= 7; op++) {
            for (int a : new int[] {LEAST, -1, 0, 32, MOST}) {
                Plc x = withValues(2);
                Check.same("op " + op + ", a " + a, x.step(5, op, a), 1);
                x.step(5, 10, 8);
                x.download();
                x.wire(1, 1);
                Check.same("it runs", x.scan(1), 12);
                Check.same("1 and 0, 1 or 0", x.out(8), op == 6 ? 0 : 1);
            }
        }
    }

    private static void notWhatItNeeds() {
        Check.sentence("UnsupportedOperationException: the stack has not what it needs");
        for (int op = 0; op < 14; op++) {
            for (int values = 0; values < NEEDED[op]; values++) {
                Plc x = withValues(values);
                int o = op;
                Check.refuses("op " + op + " at " + values, x, UNSUPPORTED, () -> x.step(5, o, operand(o)));
                Check.same("steps", x.erase(5), values);
            }
        }
    }

    private static void tooManyCome() {
        Check.sentence("or too many come");
        for (int op : new int[] {0, 1, 8}) {
            Plc x = withValues(4);
            Check.refuses("a fifth value by op " + op, x, UNSUPPORTED, () -> x.step(5, op, 0));
            Check.same("the four are still there", x.step(5, 2, 0), 4);
            Check.same("a join makes room", x.step(5, 6, 0), 3);
            Check.same("the fourth again", x.step(5, op, 0), 4);
            Check.same("steps", x.erase(5), 7);
        }
    }

    private static Plc withFullRung(int values) {
        Plc x = withValues(values);
        for (int i = values; i < 10; i++) {
            Check.same("step " + (i + 1), x.step(5, 2, 31), values);
        }
        return x;
    }

    private static void tenSteps() {
        Check.sentence("IllegalStateException: it has 10 steps.");
        for (int op = 0; op < 14; op++) {
            int o = op;
            Plc x = withFullRung(2);
            Check.refuses("an 11th step, op " + op, x, STATE, () -> x.step(5, o, operand(o)));
            Check.same("another rung takes it", x.step(6, 0, 0), 1);
            Check.same("steps", x.download(), 11);
            Check.same("steps of rung 5", x.erase(5), 10);
            Check.same("emptied, it takes steps", x.step(5, 0, 0), 1);
        }
    }

    private static void orderOfTesting() {
        Check.sentence("What is thrown is told in the order of testing");
        Plc full = withFullRung(4);
        Check.refuses("11th step and 5th value", full, UNSUPPORTED, () -> full.step(5, 0, 0));
        Check.refuses("11th step and a wrong bit", full, ARGUMENT, () -> full.step(5, 0, 32));
        Check.refuses("11th step and a wrong op", full, ARGUMENT, () -> full.step(5, 14, 0));
        Check.refuses("11th step alone", full, STATE, () -> full.step(5, 6, 0));
        Plc one = withFullRung(1);
        Check.refuses("11th step and a value missing", one, UNSUPPORTED, () -> one.step(5, 7, 0));
        Plc empty = withValues(0);
        Check.refuses("a value missing and a wrong bit", empty, ARGUMENT, () -> empty.step(5, 10, 7));
        Check.refuses("a value missing and a wrong block", empty, ARGUMENT, () -> empty.step(5, 9, 1));
        Check.refuses("a value missing and a wrong rung", empty, ARGUMENT, () -> empty.step(12, 6, 0));
    }

    private static void theStackIsAsItThenIs() {
        Check.sentence("A rung may take a step only if the stack, as it then is, has what the step needs");
        Plc x = new Plc();
        int[][] rows = {{0, 0, 1}, {0, 1, 2}, {6, 0, 1}, {1, 0, 2}, {8, 0, 3}, {0, 0, 4}, {7, 0, 3}, {7, 0, 2}, {6, 0, 1}};
        for (int[] row : rows) {
            Check.same("op " + row[0], x.step(11, row[0], row[1]), row[2]);
        }
        Check.refuses("one value is no two", x, UNSUPPORTED, () -> x.step(11, 6, 0));
        Check.same("another rung's stack is its own", x.step(10, 0, 0), 1);
        x.download();
        Check.same("a download leaves the stack", x.step(11, 2, 0), 1);
        x.fail();
        Check.same("a power failure leaves the stack", x.step(10, 2, 0), 1);
    }
}
