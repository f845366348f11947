import java.util.ArrayList;
import java.util.List;

/** Takes a controller apart: all that its calls can tell of it, also what only a later scan would show. */
final class Probe {
    private final Plc x;
    private final List<String> told = new ArrayList<>();

    private Probe(Plc x) {
        this.x = x;
    }

    /** Some 330 calls, after which x is spent. */
    static List<String> of(Plc x) {
        Probe probe = new Probe(x);
        probe.readAll();
        probe.unforce();
        probe.runOn();
        probe.looseRungs();
        probe.tryBlocks();
        return probe.told;
    }

    private void tell(String what, Check.Call call) {
        told.add(what + " " + Check.answer(call));
    }

    private int blocks() {
        return Math.min(10, x.count(3));
    }

    private void readAll() {
        for (int i = 0; i < 6; i++) {
            int what = i;
            tell("count " + i, () -> x.count(what));
        }
        for (int i = 0; i < 32; i++) {
            int bit = i;
            tell("bit " + i, () -> x.bit(bit));
        }
        numbers();
        for (int i = 0, made = blocks(); i < made; i++) {
            int block = i;
            tell("kind of " + i, () -> x.state(block, 0));
            tell("output of " + i, () -> x.state(block, 1));
            tell("COUNT of " + i, () -> x.state(block, 2));
        }
    }

    private void numbers() {
        for (int i = 0; i < 8; i++) {
            int register = i;
            tell("register " + i, () -> x.register(register));
            tell("out " + (8 + i), () -> x.out(8 + register));
        }
    }

    /** A force hides what the bit itself is. */
    private void unforce() {
        for (int i = 0; i < 32; i++) {
            int bit = i;
            tell("force of " + i, () -> x.force(bit, -1));
            tell("bit " + i + " itself", () -> x.bit(bit));
        }
    }

    private void runOn() {
        for (int i = 0; i < 8; i++) {
            int input = i;
            tell("wire " + i, () -> x.wire(input, 1));
        }
        tell("restart", () -> x.restart());
        tell("scan", () -> x.scan(2));
        numbers();
        for (int i = 16; i < 32; i++) {
            int bit = i;
            tell("bit " + i, () -> x.bit(bit));
        }
    }

    /** The rungs as they are written: their stacks, their steps, and what these do. */
    private void looseRungs() {
        for (int i = 0; i < 12; i++) {
            int rung = i;
            tell("stack of " + i, () -> x.step(rung, 2, 31));
        }
        tell("download", () -> x.download());
        tell("restart", () -> x.restart());
        tell("scan", () -> x.scan(1));
        numbers();
        for (int i = 0; i < 12; i++) {
            int rung = i;
            tell("erase " + i, () -> x.erase(rung));
        }
    }

    /** Each block works once with 1, a DIVIDE tuned before, so that none ends the scan. */
    private void tryBlocks() {
        tell("fail", () -> x.fail());
        for (int i = 0, made = blocks(); i < made; i++) {
            int block = i;
            if (x.state(i, 0) == 6) {
                tell("factor of " + i, () -> x.tune(block, 1, 0));
            }
            x.put(i % 8, 5 * i - 17);
            x.step(i, 1, 16);
            x.step(i, 9, i);
        }
        x.download();
        tell("scan", () -> x.scan(1));
        numbers();
        for (int i = 0, made = blocks(); i < made; i++) {
            int block = i;
            tell("COUNT of " + i, () -> x.state(block, 2));
            tell("factor of " + i, () -> x.tune(block, 0, 0));
        }
    }
}
