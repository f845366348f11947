import java.util.ArrayList;
import java.util.List;

/** What the tests share: comparing answers, expecting exceptions, and small ready programs. */
final class Check {
    /** A call of the face, which may throw. */
    interface Call {
        double make();
    }

    private static int made = 0;
    private static int wrong = 0;

    private Check() {
    }

    static void same(String what, double got, double due) {
        made++;
        if (got != due) {
            wrong++;
            System.out.println(what + " answered " + got + ", due is " + due);
        }
    }

    static void isTrue(String what, boolean holds) {
        same(what, holds ? 1 : 0, 1);
    }

    /** The very class must be thrown, not one below it, and what can be seen of x stays as it was. */
    static void refuses(String what, LadderScan x, Class<?> due, Call call) {
        made++;
        List<Double> before = seen(x);
        String got = "nothing";
        try {
            call.make();
        } catch (RuntimeException e) {
            got = e.getClass().getName();
        }
        if (!got.equals(due.getName())) {
            wrong++;
            System.out.println(what + " threw " + got + ", due is " + due.getName());
        }
        if (!seen(x).equals(before)) {
            wrong++;
            System.out.println(what + " threw and changed something");
        }
    }

    /** For a call that is told to change something although it throws. */
    static void throwsOnly(String what, Class<?> due, Call call) {
        String got = "nothing";
        try {
            call.make();
        } catch (RuntimeException e) {
            got = e.getClass().getName();
        }
        isTrue(what + " threw " + got + ", due is " + due.getName(), got.equals(due.getName()));
    }

    static void end() {
        System.out.println(made + " checks, " + wrong + " wrong");
        if (wrong != 0) {
            System.exit(1);
        }
    }

    /** All that can be read of an object without a lasting change. */
    static List<Double> seen(LadderScan x) {
        List<Double> all = new ArrayList<>();
        for (int i = 0; i < 32; i++) {
            all.add((double) x.bit(i));
            int forced = x.force(i, -1);
            x.force(i, forced);
            all.add((double) forced);
        }
        for (int i = 0; i < 8; i++) {
            all.add((double) x.out(8 + i));
            all.add(x.register(i));
            int onWire = x.wire(i, 0);
            x.wire(i, onWire);
            all.add((double) onWire);
        }
        for (int i = 0; i < 6; i++) {
            all.add((double) x.count(i));
        }
        for (int i = 0; i < x.count(3); i++) {
            for (int what = 0; what < 3; what++) {
                all.add((double) x.state(i, what));
            }
        }
        return all;
    }

    /** Adds steps to a rung: op, a, op, a, and so on. */
    static void rung(LadderScan x, int rung, int... steps) {
        for (int i = 0; i < steps.length; i += 2) {
            x.step(rung, steps[i], steps[i + 1]);
        }
    }

    /** Input 0 goes through one new block to output 8. */
    static LadderScan through(int kind, int p, int q) {
        LadderScan x = new LadderScan();
        x.block(kind, p, q);
        rung(x, 0, 0, 0, 9, 0, 10, 8);
        x.download();
        return x;
    }

    /** Sets the wire of input 0, scans once, and checks output 8 and the COUNT of block 0. */
    static void works(LadderScan x, int input, int output, int counted) {
        x.wire(0, input);
        x.scan(1);
        same("out(8)", x.out(8), output);
        same("state(0, 1)", x.state(0, 1), output);
        same("state(0, 2)", x.state(0, 2), counted);
    }
}
