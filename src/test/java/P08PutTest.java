/** Promise 8: put, and FIT. */
public final class P08PutTest {
    private static final Class<?> ARGUMENT = IllegalArgumentException.class;

    public static void main(String[] args) {
        LadderScan x = new LadderScan();
        double[][] fits = {{1, 1}, {0.125, 0.125}, {0.2, 0.125}, {0.249999, 0.125}, {0.25, 0.25}, {-0.125, -0.125},
            {-0.1, -0.125}, {-0.126, -0.25}, {8192, 8192}, {8191.99, 8191.875}, {-8192, -8192}, {-8191.99, -8192},
            {Double.MIN_VALUE, 0}, {-Double.MIN_VALUE, -0.125}, {0.0, 0}, {-0.0, 0}, {100.7, 100.625}, {-100.7, -100.75}};
        for (int register = 0; register < 8; register++) {
            double before = 0;
            for (double[] fit : fits) {
                Check.same("put " + fit[0], x.put(register, fit[0]), before);
                before = fit[1];
                Check.same("register", x.register(register), before);
            }
            x.put(register, register);
        }
        for (int register = 0; register < 8; register++) {
            Check.same("each for itself", x.register(register), register);
        }
        Check.refuses("register -1", x, ARGUMENT, () -> x.put(-1, 0));
        Check.refuses("register 8", x, ARGUMENT, () -> x.put(8, 0));
        double[] wrong = {8192.0000001, 8192.125, -8192.0000001, -8192.125, 1e300, -1e300, Double.NaN,
            Double.POSITIVE_INFINITY, Double.NEGATIVE_INFINITY};
        for (double value : wrong) {
            Check.refuses("value " + value, x, ARGUMENT, () -> x.put(3, value));
        }
        Check.end();
    }
}
