import java.util.ArrayList;
import java.util.List;

/** A controller whose calls are counted and kept, so that the same run can be made once more on a new object. */
final class Plc {
    /** What an object answers beyond is free, so no test may ask. */
    private static final int MOST_CALLS = 512;

    private interface Call {
        double on(LadderScan x);
    }

    private final LadderScan x = new LadderScan();
    private final List<Call> calls = new ArrayList<>();

    /** A new object with the same calls behind it, those that threw among them. */
    Plc again() {
        Plc twin = new Plc();
        for (Call call : calls) {
            try {
                twin.make(call);
            } catch (RuntimeException thrown) {
                continue;
            }
        }
        return twin;
    }

    private double make(Call call) {
        if (calls.size() == MOST_CALLS) {
            throw new AssertionError("this test calls one object more than " + MOST_CALLS + " times");
        }
        calls.add(call);
        return call.on(x);
    }

    int block(int kind, int p, int q) {
        return (int) make(y -> y.block(kind, p, q));
    }

    double tune(int block, double factor, double offset) {
        return make(y -> y.tune(block, factor, offset));
    }

    int step(int rung, int op, int a) {
        return (int) make(y -> y.step(rung, op, a));
    }

    int erase(int rung) {
        return (int) make(y -> y.erase(rung));
    }

    int download() {
        return (int) make(y -> y.download());
    }

    int wire(int input, int value) {
        return (int) make(y -> y.wire(input, value));
    }

    double put(int register, double value) {
        return make(y -> y.put(register, value));
    }

    int force(int bit, int value) {
        return (int) make(y -> y.force(bit, value));
    }

    int scan(int n) {
        return (int) make(y -> y.scan(n));
    }

    int restart() {
        return (int) make(y -> y.restart());
    }

    int fail() {
        return (int) make(y -> y.fail());
    }

    int bit(int bit) {
        return (int) make(y -> y.bit(bit));
    }

    int out(int bit) {
        return (int) make(y -> y.out(bit));
    }

    double register(int register) {
        return make(y -> y.register(register));
    }

    int state(int block, int what) {
        return (int) make(y -> y.state(block, what));
    }

    int count(int what) {
        return (int) make(y -> y.count(what));
    }
}
