/** Promise 4: step. */
public final class P04StepTest {
    private static final Class<?> ARGUMENT = IllegalArgumentException.class;
    private static final Class<?> UNSUPPORTED = UnsupportedOperationException.class;
    private static final Class<?> STATE = IllegalStateException.class;

    public static void main(String[] args) {
        LadderScan x = new LadderScan();
        wrongArguments(x);
        whatTheStackNeeds();
        fullRungs();
        everyEdgeIsTaken();
        Check.end();
    }

    private static void wrongArguments(LadderScan x) {
        x.block(3, 0, 0);
        x.step(0, 0, 0);
        Check.refuses("rung -1", x, ARGUMENT, () -> x.step(-1, 0, 0));
        Check.refuses("rung 12", x, ARGUMENT, () -> x.step(12, 0, 0));
        Check.refuses("op -1", x, ARGUMENT, () -> x.step(0, -1, 0));
        Check.refuses("op 14", x, ARGUMENT, () -> x.step(0, 14, 0));
        int[] greatest = {31, 31, 31, 31, 31, 31, 0, 0, 63, 0, 31, 31, 31, 11};
        for (int op = 0; op < 14; op++) {
            if (op == 6 || op == 7) {
                continue;
            }
            int o = op;
            int above = greatest[op] + 1;
            int below = op >= 10 && op <= 12 ? 7 : -1;
            for (int rung = 0; rung < 2; rung++) {
                int r = rung;
                Check.refuses("op " + o + " above", x, ARGUMENT, () -> x.step(r, o, above));
                Check.refuses("op " + o + " below", x, ARGUMENT, () -> x.step(r, o, below));
                Check.refuses("op " + o + " least", x, ARGUMENT, () -> x.step(r, o, Integer.MIN_VALUE));
                Check.refuses("op " + o + " most", x, ARGUMENT, () -> x.step(r, o, Integer.MAX_VALUE));
            }
        }
        Check.same("no step was added", x.erase(0), 1);
        Check.same("no step was added", x.erase(1), 0);
    }

    private static void whatTheStackNeeds() {
        LadderScan x = new LadderScan();
        x.block(3, 0, 0);
        int[] operand = {0, 0, 0, 0, 0, 0, 0, 0, 0, 0, 8, 8, 8, 0};
        int[] needed = {0, 0, 1, 1, 1, 1, 2, 2, 0, 1, 1, 1, 1, 1};
        int[] growth = {1, 1, 0, 0, 0, 0, -1, -1, 1, 0, 0, 0, 0, 0};
        for (int op = 0; op < 14; op++) {
            for (int depth = 0; depth <= 4; depth++) {
                x.erase(5);
                for (int i = 0; i < depth; i++) {
                    Check.same("pushed", x.step(5, i % 2 == 0 ? 0 : 8, 1), i + 1);
                }
                int o = op;
                if (depth < needed[op] || depth + growth[op] > 4) {
                    Check.refuses("op " + op + " at " + depth, x, UNSUPPORTED, () -> x.step(5, o, operand[o]));
                    Check.same("steps", x.erase(5), depth);
                } else {
                    Check.same("op " + op + " at " + depth, x.step(5, op, operand[op]), depth + growth[op]);
                    Check.same("steps", x.erase(5), depth + 1);
                }
            }
        }
        Check.same("a of 6 may be anything", sixWith(x, Integer.MIN_VALUE), 1);
        Check.same("a of 6 may be anything", sixWith(x, Integer.MAX_VALUE), 1);
    }

    private static int sixWith(LadderScan x, int a) {
        Check.rung(x, 0, 0, 0, 0, 0, 0, 0, 6, a);
        return x.step(0, 7, a) + x.erase(0) - 5;
    }

    private static void fullRungs() {
        LadderScan x = new LadderScan();
        for (int i = 0; i < 4; i++) {
            x.step(11, 1, 31);
        }
        for (int i = 0; i < 6; i++) {
            Check.same("step", x.step(11, 2, 31), 4);
        }
        Check.refuses("an 11th step", x, STATE, () -> x.step(11, 2, 31));
        Check.refuses("an 11th joining step", x, STATE, () -> x.step(11, 6, 0));
        Check.refuses("an 11th step with too many values", x, UNSUPPORTED, () -> x.step(11, 0, 0));
        Check.refuses("an 11th step with a wrong bit", x, ARGUMENT, () -> x.step(11, 0, 32));
        Check.same("another rung takes steps", x.step(10, 0, 0), 1);
        Check.same("download", x.download(), 11);
        Check.same("steps of rung 11", x.erase(11), 10);
    }

    private static void everyEdgeIsTaken() {
        LadderScan x = new LadderScan();
        for (int i = 0; i < 10; i++) {
            x.block(3, 0, 0);
        }
        int[][] steps = {{0, 31}, {1, 31}, {2, 31}, {3, 31}, {4, 31}, {5, 31}, {8, 63}, {9, 9}, {10, 31}};
        for (int[] step : steps) {
            x.step(0, step[0], step[1]);
        }
        Check.rung(x, 1, 0, 0, 11, 31, 12, 31, 11, 8, 12, 8, 13, 11);
        Check.same("steps", x.erase(0), 9);
        Check.same("steps", x.erase(1), 6);
    }
}
