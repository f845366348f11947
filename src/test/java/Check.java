/** What the tests share: comparing answers, expecting exceptions, and small ready programs. */
final class Check {
    /** A call of the face, which may throw. */
    interface Call {
        double make();
    }

    /** The same on an object that is handed over. */
    interface Act {
        double on(Plc x);
    }

    private static String sentence = "";
    private static int made = 0;
    private static int wrong = 0;

    private Check() {
    }

    /** The document's words that the checks from here on hold the program to. */
    static void sentence(String words) {
        sentence = words;
    }

    static void same(String what, double got, double due) {
        made++;
        if (got != due) {
            tell(what + " answered " + got + ", due is " + due);
        }
    }

    static void isTrue(String what, boolean holds) {
        made++;
        if (!holds) {
            tell(what);
        }
    }

    /** The call throws that very class, and x is as a twin is that was never called so. */
    static void refuses(String what, Plc x, Class<?> due, Call call) {
        Plc without = x.again();
        fails(what, due, call);
        made++;
        if (!Probe.of(x.again()).equals(Probe.of(without))) {
            tell(what + " threw, and changed something");
        }
    }

    /** Whatever the controller is doing: new, in the middle of its work, or stopped. */
    static void refusesAlways(String what, Class<?> due, Act act) {
        Plc fresh = new Plc();
        refuses(what + " (new)", fresh, due, () -> act.on(fresh));
        Plc busy = busy();
        refuses(what + " (busy)", busy, due, () -> act.on(busy));
        Plc halted = busy();
        halted.wire(6, 1);
        fails("a rung that jumps to itself", IllegalStateException.class, () -> halted.scan(1));
        refuses(what + " (stopped)", halted, due, () -> act.on(halted));
    }

    /** For a call that throws and is told to change something. */
    static void fails(String what, Class<?> due, Call call) {
        String got = answer(call);
        isTrue(what + " answered " + got + ", due is throws." + due.getSimpleName(),
            got.equals("throws." + due.getSimpleName()));
    }

    /** The answer as a text; -0.0 is the same number as 0.0. */
    static String answer(Call call) {
        try {
            return String.valueOf(call.make() + 0.0);
        } catch (RuntimeException thrown) {
            return "throws." + thrown.getClass().getSimpleName();
        }
    }

    static void end() {
        System.out.println(made + " checks, " + wrong + " wrong");
        if (wrong != 0) {
            System.exit(1);
        }
    }

    private static void tell(String what) {
        wrong++;
        System.out.println(sentence.isEmpty() ? what : "\"" + sentence + "\": " + what);
    }

    /** Adds steps to a rung: op, a, op, a, and so on. */
    static void rung(Plc x, int rung, int... steps) {
        for (int i = 0; i < steps.length; i += 2) {
            x.step(rung, steps[i], steps[i + 1]);
        }
    }

    /** Input 0 goes through one new block to output 8. */
    static Plc through(int kind, int p, int q) {
        Plc x = new Plc();
        x.block(kind, p, q);
        rung(x, 0, 0, 0, 9, 0, 10, 8);
        x.download();
        return x;
    }

    /** Sets the wire of input 0, scans once, and checks output 8 and the COUNT of block 0. */
    static void works(Plc x, int input, int output, int counted) {
        x.wire(0, input);
        x.scan(1);
        same("out(8)", x.out(8), output);
        same("state(0, 1)", x.state(0, 1), output);
        same("state(0, 2)", x.state(0, 2), counted);
    }

    /** Rows of input, output, COUNT. */
    static void works(Plc x, int[][] rows) {
        for (int[] row : rows) {
            works(x, row[0], row[1], row[2]);
        }
    }

    /** A block of each kind, all in use; some bits forced; rung 11 full; rungs 1 and 4 not as in the program. */
    static Plc busy() {
        Plc x = new Plc();
        int[] p = {3, 3, 4, 0, 0, 0, 1, 2};
        int[] q = {0, 0, 7, 0, 0, 1, 2, 3};
        for (int kind = 0; kind < 8; kind++) {
            x.block(kind, p[kind], q[kind]);
        }
        x.tune(5, 2, 1);
        x.tune(6, 4, 0);
        x.tune(7, 3, -3);
        rung(x, 0, 0, 0, 9, 0, 10, 8);
        rung(x, 1, 0, 0, 9, 1, 10, 9);
        rung(x, 2, 0, 0, 9, 2, 0, 0, 9, 3, 11, 24, 0, 0, 9, 4);
        rung(x, 3, 0, 0, 9, 5, 9, 6, 9, 7, 10, 16);
        rung(x, 5, 0, 6, 13, 5);
        rung(x, 11, 1, 31, 10, 17, 0, 1, 0, 2, 0, 3, 2, 1, 2, 2, 2, 3, 4, 4, 4, 5);
        x.download();
        x.put(0, 10.5);
        x.wire(0, 1);
        x.wire(5, 1);
        x.scan(2);
        x.force(9, 0);
        x.force(30, 1);
        x.force(3, 1);
        x.erase(1);
        x.step(4, 0, 0);
        return x;
    }

    /** Stopped by a DIVIDE, block 0, that input 0 is on for. */
    static Plc stopped() {
        Plc x = through(6, 0, 1);
        x.wire(0, 1);
        fails("a division by 0", ArithmeticException.class, () -> x.scan(1));
        return x;
    }
}
