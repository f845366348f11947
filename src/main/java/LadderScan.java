import java.util.NoSuchElementException;

/** A programmable controller; ../shared/DOC.md tells what each call promises. */
public final class LadderScan {
    private static final int BITS = 32;
    private static final int INPUTS = 8;
    private static final int OUTPUTS = 8;
    private static final int FIRST_OUTPUT = 8;
    private static final int FIRST_KEPT = 24;
    private static final int NOT_FORCED = -1;

    private static final int REGISTERS = 8;
    private static final int GREATEST_NUMBER = 8192;
    private static final int EIGHTHS = 8;
    private static final int GREATEST_EIGHTHS = GREATEST_NUMBER * EIGHTHS;

    private static final int BLOCKS = 10;
    private static final int LONGEST = 100;
    private static final int ON_DELAY = 0;
    private static final int OFF_DELAY = 1;
    private static final int COUNTER = 2;
    private static final int RISING = 3;
    private static final int FALLING = 4;
    private static final int SCALE = 5;
    private static final int DIVIDE = 6;
    private static final int LIMIT = 7;

    private static final int RUNGS = 12;
    private static final int STEPS = 10;
    private static final int STACK = 4;
    private static final int LOAD = 0;
    private static final int LOAD_NOT = 1;
    private static final int AND_BIT = 2;
    private static final int AND_NOT_BIT = 3;
    private static final int OR_BIT = 4;
    private static final int OR_NOT_BIT = 5;
    private static final int AND_TWO = 6;
    private static final int OR_TWO = 7;
    private static final int ABOVE = 8;
    private static final int WORK = 9;
    private static final int SET = 10;
    private static final int LATCH = 11;
    private static final int CLEAR = 12;
    private static final int JUMP = 13;

    private static final int MOST_SCANS = 20;
    private static final int MOST_RUNGS_BEGUN = 30;
    private static final int TOO_MANY_RUNGS = -1;
    private static final int DIVIDED_BY_ZERO = -2;

    private final Memory memory = new Memory();
    private final Block[] blocks = new Block[BLOCKS];
    private final Ladder written = new Ladder();
    private final Ladder program = new Ladder();
    private int blocksMade = 0;
    private int fullScans = 0;
    private int failedScans = 0;
    private boolean stopped = false;

    public LadderScan() {
        // All made here, so that no later call finds a missing one.
        for (int i = 0; i < BLOCKS; i++) {
            blocks[i] = new Block();
        }
    }

    public int block(int kind, int p, int q) throws IllegalArgumentException, IllegalStateException {
        if (!isBlock(kind, p, q)) {
            throw new IllegalArgumentException();
        }
        if (blocksMade >= BLOCKS) {
            throw new IllegalStateException();
        }
        blocks[blocksMade].become(kind, p, q);
        blocksMade++;
        return blocksMade - 1;
    }

    public double tune(int block, double factor, double offset)
            throws NoSuchElementException, UnsupportedOperationException, IllegalArgumentException {
        if (!isMade(block)) {
            throw new NoSuchElementException();
        }
        Block tuned = blocks[block];
        if (tuned.kind < SCALE) {
            throw new UnsupportedOperationException();
        }
        if (!isWholeEighths(factor) || !isWholeEighths(offset)) {
            throw new IllegalArgumentException();
        }
        if (tuned.kind == LIMIT && factor < offset) {
            throw new IllegalArgumentException();
        }
        double before = numberOf(tuned.factor);
        tuned.factor = eighthsAtMost(factor);
        tuned.offset = eighthsAtMost(offset);
        return before;
    }

    public int step(int rung, int op, int a)
            throws IllegalArgumentException, UnsupportedOperationException, IllegalStateException {
        if (!isRung(rung) || !isStep(op, a)) {
            throw new IllegalArgumentException();
        }
        if (!written.stackAllows(rung, op)) {
            throw new UnsupportedOperationException();
        }
        if (written.isFull(rung)) {
            throw new IllegalStateException();
        }
        return written.add(rung, op, a);
    }

    public int erase(int rung) throws IllegalArgumentException {
        if (!isRung(rung)) {
            throw new IllegalArgumentException();
        }
        return written.empty(rung);
    }

    public int download() {
        program.copyFrom(written);
        return program.size();
    }

    public int wire(int input, int value) throws IllegalArgumentException {
        if (!isWithin(input, 0, INPUTS - 1) || !isWithin(value, 0, 1)) {
            throw new IllegalArgumentException();
        }
        int before = memory.inputWires[input];
        memory.inputWires[input] = value;
        return before;
    }

    public double put(int register, double value) throws IllegalArgumentException {
        if (!isRegister(register) || !isInRange(value)) {
            throw new IllegalArgumentException();
        }
        double before = numberOf(memory.registers[register]);
        memory.registers[register] = eighthsAtMost(value);
        return before;
    }

    public int force(int bit, int value) throws IllegalArgumentException {
        if (!isBit(bit) || !isWithin(value, NOT_FORCED, 1)) {
            throw new IllegalArgumentException();
        }
        int before = memory.forces[bit];
        memory.forces[bit] = value;
        return before;
    }

    public int scan(int n) throws IllegalArgumentException, IllegalStateException, ArithmeticException {
        if (!isWithin(n, 1, MOST_SCANS)) {
            throw new IllegalArgumentException();
        }
        if (stopped) {
            throw new IllegalStateException();
        }
        int begun = 0;
        for (int i = 0; i < n; i++) {
            int result = scanOnce();
            if (result == TOO_MANY_RUNGS) {
                throw new IllegalStateException();
            }
            if (result == DIVIDED_BY_ZERO) {
                throw new ArithmeticException();
            }
            begun += result;
        }
        return begun;
    }

    public int restart() {
        int was = stopped ? 1 : 0;
        stopped = false;
        return was;
    }

    public int fail() {
        memory.losePower();
        for (int i = 0; i < BLOCKS; i++) {
            blocks[i].losePower();
        }
        stopped = false;
        return memory.keptOnes();
    }

    public int bit(int bit) throws IllegalArgumentException {
        if (!isBit(bit)) {
            throw new IllegalArgumentException();
        }
        return memory.read(bit);
    }

    public int out(int bit) throws IllegalArgumentException {
        if (!isWithin(bit, FIRST_OUTPUT, FIRST_OUTPUT + OUTPUTS - 1)) {
            throw new IllegalArgumentException();
        }
        return memory.outputWires[bit - FIRST_OUTPUT];
    }

    public double register(int register) throws IllegalArgumentException {
        if (!isRegister(register)) {
            throw new IllegalArgumentException();
        }
        return numberOf(memory.registers[register]);
    }

    public int state(int block, int what) throws NoSuchElementException, IllegalArgumentException {
        if (!isMade(block)) {
            throw new NoSuchElementException();
        }
        switch (what) {
            case 0:
                return blocks[block].kind;
            case 1:
                return blocks[block].output;
            case 2:
                return blocks[block].counted;
            default:
                throw new IllegalArgumentException();
        }
    }

    public int count(int what) throws IllegalArgumentException {
        switch (what) {
            case 0:
                return fullScans;
            case 1:
                return failedScans;
            case 2:
                return stopped ? 1 : 0;
            case 3:
                return blocksMade;
            case 4:
                return program.size();
            case 5:
                return memory.forcedBits();
            default:
                throw new IllegalArgumentException();
        }
    }

    private static boolean isWithin(int value, int least, int greatest) {
        return value >= least && value <= greatest;
    }

    private static boolean isBit(int bit) {
        return isWithin(bit, 0, BITS - 1);
    }

    private static boolean isRegister(int register) {
        return isWithin(register, 0, REGISTERS - 1);
    }

    private static boolean isRung(int rung) {
        return isWithin(rung, 0, RUNGS - 1);
    }

    private boolean isMade(int block) {
        return isWithin(block, 0, blocksMade - 1);
    }

    private static boolean isBlock(int kind, int p, int q) {
        switch (kind) {
            case ON_DELAY:
            case OFF_DELAY:
                return isWithin(p, 1, LONGEST);
            case COUNTER:
                return isWithin(p, 1, LONGEST) && isBit(q);
            case RISING:
            case FALLING:
                return true;
            case SCALE:
            case DIVIDE:
            case LIMIT:
                return isRegister(p) && isRegister(q);
            default:
                return false;
        }
    }

    private boolean isStep(int op, int a) {
        switch (op) {
            case LOAD:
            case LOAD_NOT:
            case AND_BIT:
            case AND_NOT_BIT:
            case OR_BIT:
            case OR_NOT_BIT:
                return isBit(a);
            case AND_TWO:
            case OR_TWO:
                return true;
            case ABOVE:
                return isWithin(a, 0, REGISTERS * REGISTERS - 1);
            case WORK:
                return isMade(a);
            case SET:
            case LATCH:
            case CLEAR:
                return isWithin(a, FIRST_OUTPUT, BITS - 1);
            case JUMP:
                return isRung(a);
            default:
                return false;
        }
    }

    /** Written so that no number at all is not in range either. */
    private static boolean isInRange(double value) {
        return value >= -GREATEST_NUMBER && value <= GREATEST_NUMBER;
    }

    private static boolean isWholeEighths(double value) {
        return isInRange(value) && numberOf(eighthsAtMost(value)) == value;
    }

    /** Of a value in range alone; times eight is exact in a double, so only the cast rounds. */
    private static int eighthsAtMost(double value) {
        double eighths = value * EIGHTHS;
        int towardsZero = (int) eighths;
        return towardsZero > eighths ? towardsZero - 1 : towardsZero;
    }

    private static double numberOf(int eighths) {
        return eighths / (double) EIGHTHS;
    }

    /** Answers how many rungs were begun, or which failure it was. */
    private int scanOnce() {
        memory.takeInputs();
        int result = runProgram();
        if (result < 0) {
            stopped = true;
            failedScans++;
            memory.clearOutputWires();
        } else {
            fullScans++;
            memory.sendOutputs();
        }
        return result;
    }

    private int runProgram() {
        int rung = 0;
        int begun = 0;
        while (rung < RUNGS && begun < MOST_RUNGS_BEGUN) {
            begun++;
            rung = runRung(rung);
            if (rung < 0) {
                return rung;
            }
        }
        return rung < RUNGS ? TOO_MANY_RUNGS : begun;
    }

    /** Answers the rung that comes next, or DIVIDED_BY_ZERO. */
    private int runRung(int rung) {
        // The stack is one number: its lowest binary digit is the top value.
        int stack = 0;
        int length = program.lengths[rung];
        for (int i = 0; i < length; i++) {
            int op = program.ops[rung * STEPS + i];
            int a = program.operands[rung * STEPS + i];
            int top = stack & 1;
            if (op == JUMP) {
                if (top == 1) {
                    return a;
                }
            } else if (op == WORK) {
                if (blocks[a].failsWith(top)) {
                    return DIVIDED_BY_ZERO;
                }
                stack = withTop(stack, blocks[a].work(top, memory));
            } else if (op >= SET) {
                memory.assign(op, a, top);
            } else {
                stack = stackAfter(stack, op, a);
            }
        }
        return rung + 1;
    }

    private int stackAfter(int stack, int op, int a) {
        switch (op) {
            case LOAD:
                return withPushed(stack, memory.read(a));
            case LOAD_NOT:
                return withPushed(stack, 1 - memory.read(a));
            case AND_BIT:
                return withTop(stack, stack & memory.read(a));
            case AND_NOT_BIT:
                return withTop(stack, stack & (1 - memory.read(a)));
            case OR_BIT:
                return withTop(stack, (stack & 1) | memory.read(a));
            case OR_NOT_BIT:
                return withTop(stack, (stack & 1) | (1 - memory.read(a)));
            case AND_TWO:
                return withTop(stack >> 1, (stack >> 1) & stack & 1);
            case OR_TWO:
                return withTop(stack >> 1, ((stack >> 1) | stack) & 1);
            case ABOVE:
                return withPushed(stack, memory.isAbove(a / REGISTERS, a % REGISTERS) ? 1 : 0);
            default:
                return stack;
        }
    }

    private static int withPushed(int stack, int value) {
        return (stack << 1) | value;
    }

    private static int withTop(int stack, int value) {
        return (stack & ~1) | value;
    }

    /** Bits, wires and registers: all that steps and blocks work on. */
    private static final class Memory {
        final int[] bits = new int[BITS];
        final int[] forces = new int[BITS];
        final int[] inputWires = new int[INPUTS];
        final int[] outputWires = new int[OUTPUTS];
        /** In eighths, so that all reckoning is exact. */
        final int[] registers = new int[REGISTERS];

        Memory() {
            for (int i = 0; i < BITS; i++) {
                forces[i] = NOT_FORCED;
            }
        }

        int read(int bit) {
            return forces[bit] == NOT_FORCED ? bits[bit] : forces[bit];
        }

        void assign(int op, int bit, int top) {
            if (op == SET) {
                bits[bit] = top;
            } else if (top == 1) {
                bits[bit] = op == LATCH ? 1 : 0;
            }
        }

        boolean isAbove(int one, int other) {
            return registers[one] > registers[other];
        }

        void store(int register, long eighths) {
            registers[register] = (int) Math.max(-GREATEST_EIGHTHS, Math.min(GREATEST_EIGHTHS, eighths));
        }

        void takeInputs() {
            for (int i = 0; i < INPUTS; i++) {
                bits[i] = inputWires[i];
            }
        }

        void sendOutputs() {
            for (int i = 0; i < OUTPUTS; i++) {
                outputWires[i] = read(FIRST_OUTPUT + i);
            }
        }

        void clearOutputWires() {
            for (int i = 0; i < OUTPUTS; i++) {
                outputWires[i] = 0;
            }
        }

        void losePower() {
            for (int i = 0; i < FIRST_KEPT; i++) {
                bits[i] = 0;
            }
            clearOutputWires();
        }

        int keptOnes() {
            int ones = 0;
            for (int i = FIRST_KEPT; i < BITS; i++) {
                ones += bits[i];
            }
            return ones;
        }

        int forcedBits() {
            int forced = 0;
            for (int i = 0; i < BITS; i++) {
                if (forces[i] != NOT_FORCED) {
                    forced++;
                }
            }
            return forced;
        }
    }

    private static final class Block {
        int kind = 0;
        int p = 0;
        int q = 0;
        /** Factor and offset are in eighths, as the registers are. */
        int factor = 0;
        int offset = 0;
        int output = 0;
        int counted = 0;
        int lastInput = 0;

        void become(int newKind, int newP, int newQ) {
            kind = newKind;
            p = newP;
            q = newQ;
        }

        void losePower() {
            output = 0;
            counted = 0;
            lastInput = 0;
        }

        /** To be asked before work, which a failure must not begin. */
        boolean failsWith(int x) {
            return kind == DIVIDE && x == 1 && factor == 0;
        }

        /** Answers the output that comes of it. */
        int work(int x, Memory memory) {
            switch (kind) {
                case ON_DELAY:
                    counted = x == 1 ? Math.min(counted + 1, p) : 0;
                    output = x == 1 && counted == p ? 1 : 0;
                    break;
                case OFF_DELAY:
                    counted = x == 1 ? p : Math.max(counted - 1, 0);
                    output = counted > 0 ? 1 : 0;
                    break;
                case COUNTER:
                    counted = countWith(x, memory.read(q));
                    output = counted == p ? 1 : 0;
                    break;
                case RISING:
                    output = x == 1 && lastInput == 0 ? 1 : 0;
                    break;
                case FALLING:
                    output = x == 0 && lastInput == 1 ? 1 : 0;
                    break;
                default:
                    if (x == 1) {
                        memory.store(q, reckon(memory.registers[p]));
                    }
                    output = x;
                    break;
            }
            lastInput = x;
            return output;
        }

        private int countWith(int x, int reset) {
            if (reset == 1) {
                return 0;
            }
            return x == 1 && lastInput == 0 ? Math.min(counted + 1, p) : counted;
        }

        /** Rounds down to whole eighths; long, as a product of two numbers in eighths outgrows an int. */
        private long reckon(long eighths) {
            if (kind == SCALE) {
                return Math.floorDiv(eighths * factor, (long) EIGHTHS) + offset;
            }
            if (kind == LIMIT) {
                return Math.max(offset, Math.min(factor, eighths));
            }
            return factor == 0 ? 0 : Math.floorDiv(eighths * EIGHTHS, (long) factor);
        }
    }

    /** The steps of all rungs, a row of STEPS places for each rung. */
    private static final class Ladder {
        final int[] ops = new int[RUNGS * STEPS];
        final int[] operands = new int[RUNGS * STEPS];
        final int[] lengths = new int[RUNGS];
        private final int[] depths = new int[RUNGS];

        boolean isFull(int rung) {
            return lengths[rung] >= STEPS;
        }

        boolean stackAllows(int rung, int op) {
            return depths[rung] >= needed(op) && depths[rung] + growth(op) <= STACK;
        }

        int add(int rung, int op, int a) {
            int place = rung * STEPS + lengths[rung];
            ops[place] = op;
            operands[place] = a;
            lengths[rung]++;
            depths[rung] += growth(op);
            return depths[rung];
        }

        int empty(int rung) {
            int had = lengths[rung];
            lengths[rung] = 0;
            depths[rung] = 0;
            return had;
        }

        /** Without the depths, which only the ladder that is being written needs. */
        void copyFrom(Ladder other) {
            System.arraycopy(other.ops, 0, ops, 0, RUNGS * STEPS);
            System.arraycopy(other.operands, 0, operands, 0, RUNGS * STEPS);
            System.arraycopy(other.lengths, 0, lengths, 0, RUNGS);
        }

        int size() {
            int steps = 0;
            for (int i = 0; i < RUNGS; i++) {
                steps += lengths[i];
            }
            return steps;
        }

        private static boolean pushes(int op) {
            return op == LOAD || op == LOAD_NOT || op == ABOVE;
        }

        private static boolean joins(int op) {
            return op == AND_TWO || op == OR_TWO;
        }

        private static int needed(int op) {
            if (pushes(op)) {
                return 0;
            }
            return joins(op) ? 2 : 1;
        }

        private static int growth(int op) {
            if (pushes(op)) {
                return 1;
            }
            return joins(op) ? -1 : 0;
        }
    }
}
