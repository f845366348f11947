/** Promise 8: put, and FIT. */
public final class P08PutTest {
    private static final Class<?> ARGUMENT = IllegalArgumentException.class;

    public static void main(String[] args) {
        answersWhatItWas();
        registerIsZeroToSeven();
        valueIsInRange();
        fitAboveZero();
        fitBelowZero();
        fitAtTheEnds();
        multiplesStay();
        Check.end();
    }

    private static void answersWhatItWas() {
        Check.sentence("Sets a register: what it was.");
        Plc x = new Plc();
        for (int i = 0; i < 8; i++) {
            Check.same("first", x.put(i, 1000 * i + 0.875), 0);
        }
        for (int i = 0; i < 8; i++) {
            Check.same("register", x.register(i), 1000 * i + 0.875);
            Check.same("second", x.put(i, -1), 1000 * i + 0.875);
            Check.same("third", x.put(i, 0.3), -1);
            Check.same("what it became, not what was put", x.put(i, 0), 0.25);
        }
    }

    private static void registerIsZeroToSeven() {
        Check.sentence("IllegalArgumentException: not 0 .. 7");
        for (int register : new int[] {Integer.MIN_VALUE, -1, 8, Integer.MAX_VALUE}) {
            Check.refusesAlways("register " + register, ARGUMENT, x -> x.put(register, 5));
        }
        Check.same("register 0", new Plc().put(0, 5), 0);
        Check.same("register 7", new Plc().put(7, 5), 0);
    }

    private static void valueIsInRange() {
        Check.sentence("or value not -8192 .. 8192");
        double[] wrong = {Math.nextUp(8192.0), 8192.0625, 8192.125, 9000, Math.nextDown(-8192.0), -8192.0625, -8192.125,
            -9000, 536870912.0, 1e300, -1e300, Double.MAX_VALUE, -Double.MAX_VALUE, Double.POSITIVE_INFINITY,
            Double.NEGATIVE_INFINITY, Double.NaN};
        for (double value : wrong) {
            Check.refusesAlways("put(0, " + value + ")", ARGUMENT, x -> x.put(0, value));
            Check.refusesAlways("put(7, " + value + ")", ARGUMENT, x -> x.put(7, value));
        }
    }

    private static void becomes(double value, double due) {
        for (int register : new int[] {0, 7}) {
            Plc x = new Plc();
            x.put(register, 77);
            Check.same("put(" + register + ", " + value + ")", x.put(register, value), 77);
            Check.same("register(" + register + ") behind put " + value, x.register(register), due);
            Check.same("another register", x.register(7 - register), 0);
        }
    }

    private static void fitAboveZero() {
        Check.sentence("FIT(v) is the greatest multiple of an eighth that is at most v (above 0)");
        becomes(0.1, 0);
        becomes(Double.MIN_VALUE, 0);
        becomes(Math.nextDown(0.125), 0);
        becomes(Math.nextUp(0.125), 0.125);
        becomes(0.2, 0.125);
        becomes(0.249999, 0.125);
        becomes(Math.nextDown(1.0), 0.875);
        becomes(Math.nextUp(1.0), 1);
        becomes(100.7, 100.625);
        becomes(4095.99, 4095.875);
    }

    private static void fitBelowZero() {
        Check.sentence("FIT(v) is the greatest multiple of an eighth that is at most v (below 0)");
        becomes(-Double.MIN_VALUE, -0.125);
        becomes(-0.1, -0.125);
        becomes(Math.nextUp(-0.125), -0.125);
        becomes(Math.nextDown(-0.125), -0.25);
        becomes(-0.126, -0.25);
        becomes(Math.nextUp(-1.0), -1);
        becomes(Math.nextDown(-1.0), -1.125);
        becomes(-100.7, -100.75);
        becomes(-4095.99, -4096);
    }

    private static void fitAtTheEnds() {
        Check.sentence("multiples of an eighth from -8192 to 8192");
        becomes(8192, 8192);
        becomes(Math.nextDown(8192.0), 8191.875);
        becomes(8191.99, 8191.875);
        becomes(8191.875, 8191.875);
        becomes(Math.nextDown(8191.875), 8191.75);
        becomes(-8192, -8192);
        becomes(Math.nextUp(-8192.0), -8192);
        becomes(-8191.99, -8192);
        becomes(-8191.875, -8191.875);
        becomes(Math.nextDown(-8191.875), -8192);
    }

    private static void multiplesStay() {
        Check.sentence("(It becomes FIT(value).)");
        for (double value : new double[] {0, -0.0, 0.125, -0.125, 0.25, 1, -1, 1.375, -7.625, 4096, -4096.5}) {
            becomes(value, value);
        }
    }
}
