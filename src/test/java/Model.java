import java.math.BigDecimal;
import java.math.RoundingMode;
import java.util.ArrayDeque;
import java.util.ArrayList;
import java.util.HashMap;
import java.util.List;
import java.util.Map;
import java.util.NoSuchElementException;

/** The document told once more, in another way than the program does it, to compare random runs with. */
final class Model {
    private static final BigDecimal EIGHT = BigDecimal.valueOf(8);
    private static final BigDecimal TOP = BigDecimal.valueOf(8192);

    private static final class Part {
        int kind;
        int p;
        int q;
        BigDecimal factor = BigDecimal.ZERO;
        BigDecimal offset = BigDecimal.ZERO;
        boolean output;
        int count;
        boolean was;
    }

    private static final class Stop extends Exception {
        private static final long serialVersionUID = 1L;
        final transient RuntimeException told;

        Stop(RuntimeException told) {
            this.told = told;
        }
    }

    private final boolean[] bits = new boolean[32];
    private final Map<Integer, Boolean> forces = new HashMap<>();
    private final boolean[] in = new boolean[8];
    private final boolean[] out = new boolean[8];
    private final BigDecimal[] numbers = new BigDecimal[8];
    private final List<Part> parts = new ArrayList<>();
    private List<List<int[]>> rungs = new ArrayList<>();
    private List<List<int[]>> program = new ArrayList<>();
    private int full;
    private int failed;
    private boolean stopped;

    Model() {
        for (int i = 0; i < 8; i++) {
            numbers[i] = BigDecimal.ZERO;
        }
        for (int i = 0; i < 12; i++) {
            rungs.add(new ArrayList<>());
            program.add(new ArrayList<>());
        }
    }

    double call(String name, int a, int b, int c, double d, double e) {
        switch (name) {
            case "block": return block(a, b, c);
            case "tune": return tune(a, d, e);
            case "step": return step(a, b, c);
            case "erase": return erase(a);
            case "download": return download();
            case "wire": return wire(a, b);
            case "put": return put(a, d);
            case "force": return force(a, b);
            case "scan": return scan(a);
            case "restart": return restart();
            case "fail": return fail();
            case "bit": argument(a >= 0 && a < 32); return number(reads(a));
            case "out": argument(a > 7 && a < 16); return number(out[a - 8]);
            case "register": argument(a >= 0 && a < 8); return numbers[a].doubleValue();
            case "state": return state(a, b);
            default: return count(a);
        }
    }

    private static void argument(boolean holds) {
        if (!holds) {
            throw new IllegalArgumentException();
        }
    }

    private static int number(boolean value) {
        return value ? 1 : 0;
    }

    private boolean reads(int bit) {
        return forces.getOrDefault(bit, bits[bit]);
    }

    private static BigDecimal fit(BigDecimal v) {
        BigDecimal down = v.multiply(EIGHT).setScale(0, RoundingMode.FLOOR).divide(EIGHT);
        return down.min(TOP).max(TOP.negate());
    }

    private double block(int kind, int p, int q) {
        argument(kind >= 0 && kind <= 7);
        argument(kind > 2 || p > 0 && p < 101);
        argument(kind < 5 || p > -1 && p < 8 && q > -1 && q < 8);
        argument(kind != 2 || q > -1 && q < 32);
        if (parts.size() == 10) {
            throw new IllegalStateException();
        }
        Part made = new Part();
        made.kind = kind;
        made.p = p;
        made.q = q;
        parts.add(made);
        return parts.size() - 1;
    }

    private Part part(int block) {
        if (block < 0 || block >= parts.size()) {
            throw new NoSuchElementException();
        }
        return parts.get(block);
    }

    private static void eighth(double v) {
        argument(Math.abs(v) <= 8192 && Math.rint(v * 8) == v * 8);
    }

    private double tune(int block, double factor, double offset) {
        Part tuned = part(block);
        if (tuned.kind < 5) {
            throw new UnsupportedOperationException();
        }
        eighth(factor);
        eighth(offset);
        argument(tuned.kind != 7 || factor >= offset);
        double before = tuned.factor.doubleValue();
        tuned.factor = new BigDecimal(factor);
        tuned.offset = new BigDecimal(offset);
        return before;
    }

    private double step(int rung, int op, int a) {
        argument(rung >= 0 && rung < 12 && op >= 0 && op < 14);
        int least = op >= 10 && op <= 12 ? 8 : 0;
        int most = op == 8 ? 63 : op == 9 ? parts.size() - 1 : op == 13 ? 11 : 31;
        argument(op == 6 || op == 7 || a >= least && a <= most);
        int depth = depth(rungs.get(rung));
        boolean pushes = op < 2 || op == 8;
        boolean joins = op == 6 || op == 7;
        if (pushes ? depth == 4 : depth < (joins ? 2 : 1)) {
            throw new UnsupportedOperationException();
        }
        if (rungs.get(rung).size() == 10) {
            throw new IllegalStateException();
        }
        rungs.get(rung).add(new int[] {op, a});
        return depth(rungs.get(rung));
    }

    private static int depth(List<int[]> rung) {
        int depth = 0;
        for (int[] step : rung) {
            depth += step[0] < 2 || step[0] == 8 ? 1 : step[0] == 6 || step[0] == 7 ? -1 : 0;
        }
        return depth;
    }

    private double erase(int rung) {
        argument(rung >= 0 && rung < 12);
        int had = rungs.get(rung).size();
        rungs.get(rung).clear();
        return had;
    }

    private double download() {
        program = new ArrayList<>();
        for (List<int[]> rung : rungs) {
            program.add(new ArrayList<>(rung));
        }
        return count(4);
    }

    private double wire(int input, int value) {
        argument(input >= 0 && input < 8 && (value == 0 || value == 1));
        int was = number(in[input]);
        in[input] = value == 1;
        return was;
    }

    private double put(int register, double value) {
        argument(register >= 0 && register < 8 && Math.abs(value) <= 8192);
        double was = numbers[register].doubleValue();
        numbers[register] = fit(new BigDecimal(value));
        return was;
    }

    private double force(int bit, int value) {
        argument(bit >= 0 && bit < 32 && value >= -1 && value <= 1);
        Boolean was = value < 0 ? forces.remove(bit) : forces.put(bit, value == 1);
        return was == null ? -1 : number(was);
    }

    private double scan(int n) {
        argument(n >= 1 && n <= 20);
        if (stopped) {
            throw new IllegalStateException();
        }
        int begun = 0;
        try {
            for (int i = 0; i < n; i++) {
                begun += scanOnce();
                full++;
            }
        } catch (Stop stop) {
            stopped = true;
            failed++;
            for (int i = 0; i < 8; i++) {
                out[i] = false;
            }
            throw stop.told;
        }
        return begun;
    }

    private int scanOnce() throws Stop {
        System.arraycopy(in, 0, bits, 0, 8);
        int begun = 0;
        for (int rung = 0; rung < 12;) {
            if (++begun == 31) {
                throw new Stop(new IllegalStateException());
            }
            rung = rungDone(rung);
        }
        for (int i = 0; i < 8; i++) {
            out[i] = reads(8 + i);
        }
        return begun;
    }

    private int rungDone(int rung) throws Stop {
        ArrayDeque<Boolean> stack = new ArrayDeque<>();
        for (int[] step : program.get(rung)) {
            int a = step[1];
            switch (step[0]) {
                case 0: stack.push(reads(a)); break;
                case 1: stack.push(!reads(a)); break;
                case 2: stack.push(stack.pop() && reads(a)); break;
                case 3: stack.push(stack.pop() && !reads(a)); break;
                case 4: stack.push(stack.pop() || reads(a)); break;
                case 5: stack.push(stack.pop() || !reads(a)); break;
                case 6: stack.push(stack.pop() & stack.pop()); break;
                case 7: stack.push(stack.pop() | stack.pop()); break;
                case 8: stack.push(numbers[a / 8].compareTo(numbers[a % 8]) > 0); break;
                case 9: stack.push(worked(parts.get(a), stack.pop())); break;
                case 10: bits[a] = stack.peek(); break;
                case 11: bits[a] |= stack.peek(); break;
                case 12: bits[a] &= !stack.peek(); break;
                default: if (stack.peek()) { return a; }
            }
        }
        return rung + 1;
    }

    private boolean worked(Part part, boolean x) throws Stop {
        boolean rises = x && !part.was;
        boolean falls = !x && part.was;
        part.was = x;
        switch (part.kind) {
            case 0:
                part.count = x ? Math.min(part.count + 1, part.p) : 0;
                part.output = x && part.count == part.p;
                break;
            case 1:
                part.count = x ? part.p : Math.max(0, part.count - 1);
                part.output = part.count > 0;
                break;
            case 2:
                part.count = reads(part.q) ? 0 : Math.min(part.p, part.count + number(rises));
                part.output = part.count == part.p;
                break;
            case 3: part.output = rises; break;
            case 4: part.output = falls; break;
            default:
                if (x) {
                    numbers[part.q] = reckoned(part, numbers[part.p]);
                }
                part.output = x;
        }
        return part.output;
    }

    private static BigDecimal reckoned(Part part, BigDecimal from) throws Stop {
        if (part.kind == 5) {
            return fit(from.multiply(part.factor).add(part.offset));
        }
        if (part.kind == 7) {
            return from.min(part.factor).max(part.offset);
        }
        if (part.factor.signum() == 0) {
            throw new Stop(new ArithmeticException());
        }
        return fit(from.divide(part.factor, 40, RoundingMode.FLOOR));
    }

    private double restart() {
        int was = number(stopped);
        stopped = false;
        return was;
    }

    private double fail() {
        int kept = 0;
        for (int i = 0; i < 32; i++) {
            bits[i] &= i > 23;
            kept += number(bits[i]);
        }
        for (int i = 0; i < 8; i++) {
            out[i] = false;
        }
        for (Part part : parts) {
            part.output = false;
            part.count = 0;
            part.was = false;
        }
        stopped = false;
        return kept;
    }

    private double state(int block, int what) {
        Part told = part(block);
        argument(what >= 0 && what <= 2);
        return what == 0 ? told.kind : what == 1 ? number(told.output) : told.count;
    }

    private double count(int what) {
        argument(what >= 0 && what <= 5);
        int steps = 0;
        for (List<int[]> rung : program) {
            steps += rung.size();
        }
        return new int[] {full, failed, number(stopped), parts.size(), steps, forces.size()}[what];
    }
}
