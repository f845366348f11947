/** Promise 10: how each kind of block works in a scan. */
public final class P10BlocksTest {
    public static void main(String[] args) {
        onDelay();
        offDelay();
        counter();
        edges();
        scale();
        divide();
        limit();
        outputOfTheNumberBlocks();
        neverTuned();
        aBlockMayWorkTwiceInAScan();
        Check.end();
    }

    private static void onDelay() {
        LadderScan x = Check.through(0, 3, 0);
        int[][] rows = {{0, 0, 0}, {1, 0, 1}, {1, 0, 2}, {1, 1, 3}, {1, 1, 3}, {0, 0, 0}, {1, 0, 1}, {0, 0, 0}};
        run(x, rows);
        run(Check.through(0, 1, 0), new int[][] {{1, 1, 1}, {0, 0, 0}, {1, 1, 1}});
        LadderScan y = Check.through(0, 100, 0);
        y.wire(0, 1);
        for (int i = 0; i < 9; i++) {
            y.scan(11);
        }
        Check.same("COUNT", y.state(0, 2), 99);
        Check.works(y, 1, 1, 100);
    }

    private static void offDelay() {
        LadderScan x = Check.through(1, 3, 0);
        int[][] rows = {{0, 0, 0}, {1, 1, 3}, {1, 1, 3}, {0, 1, 2}, {0, 1, 1}, {1, 1, 3}, {0, 1, 2}, {0, 1, 1},
            {0, 0, 0}, {0, 0, 0}};
        run(x, rows);
        run(Check.through(1, 1, 0), new int[][] {{1, 1, 1}, {0, 0, 0}});
    }

    private static void counter() {
        LadderScan x = Check.through(2, 2, 1);
        run(x, new int[][] {{0, 0, 0}, {1, 0, 1}, {1, 0, 1}, {0, 0, 1}, {1, 1, 2}, {0, 1, 2}, {1, 1, 2}, {0, 1, 2}});
        x.wire(1, 1);
        run(x, new int[][] {{0, 0, 0}, {1, 0, 0}});
        x.wire(1, 0);
        run(x, new int[][] {{1, 0, 0}, {0, 0, 0}, {1, 0, 1}});
        x.wire(1, 1);
        run(x, new int[][] {{0, 0, 0}});
        x.wire(1, 0);
        run(x, new int[][] {{1, 0, 1}});
    }

    private static void edges() {
        int[][] rising = {{0, 0, 0}, {1, 1, 0}, {1, 0, 0}, {0, 0, 0}, {0, 0, 0}, {1, 1, 0}};
        run(Check.through(3, 0, 0), rising);
        run(Check.through(3, 0, 0), new int[][] {{1, 1, 0}});
        int[][] falling = {{0, 0, 0}, {1, 0, 0}, {1, 0, 0}, {0, 1, 0}, {0, 0, 0}, {1, 0, 0}, {0, 1, 0}};
        run(Check.through(4, 0, 0), falling);
    }

    private static void run(LadderScan x, int[][] rows) {
        for (int[] row : rows) {
            Check.works(x, row[0], row[1], row[2]);
        }
    }

    private static double reckoned(int kind, double register, double factor, double offset) {
        LadderScan x = Check.through(kind, 6, 3);
        x.tune(0, factor, offset);
        x.put(6, register);
        x.put(3, 77);
        x.scan(1);
        Check.same("untouched while x is 0", x.register(3), 77);
        x.wire(0, 1);
        x.scan(1);
        Check.same("register p stays", x.register(6), register);
        return x.register(3);
    }

    private static void scale() {
        Check.same("100 * 20 - 3", reckoned(5, 100, 20, -3), 1997);
        Check.same("0.125 * 0.125", reckoned(5, 0.125, 0.125, 0), 0);
        Check.same("-0.125 * 0.125", reckoned(5, -0.125, 0.125, 0), -0.125);
        Check.same("1.5 * 0.375", reckoned(5, 1.5, 0.375, 0), 0.5);
        Check.same("-1.5 * 0.375 + 0.125", reckoned(5, -1.5, 0.375, 0.125), -0.5);
        Check.same("8192 * 8192", reckoned(5, 8192, 8192, 8192), 8192);
        Check.same("8192 * -8192", reckoned(5, 8192, -8192, -8192), -8192);
        Check.same("8192 * 1 + 0.125", reckoned(5, 8192, 1, 0.125), 8192);
        Check.same("4096 * 4 - 8192", reckoned(5, 4096, 4, -8192), 8192);
        Check.same("range only at the end", reckoned(5, 4096, 3, -8192), 4096);
        Check.same("untuned", reckoned(5, 4096, 0, 0), 0);
    }

    private static void divide() {
        Check.same("1997 / 12", reckoned(6, 1997, 12, 0), 166.375);
        Check.same("-2023 / 12", reckoned(6, -2023, 12, 0), -168.625);
        Check.same("1 / 3", reckoned(6, 1, 3, 0), 0.25);
        Check.same("1 / -3", reckoned(6, 1, -3, 0), -0.375);
        Check.same("-1 / -3", reckoned(6, -1, -3, 0), 0.25);
        Check.same("the offset is not used", reckoned(6, 6, 3, 100), 2);
        Check.same("8192 / 0.125", reckoned(6, 8192, 0.125, 0), 8192);
        Check.same("-8192 / 0.125", reckoned(6, -8192, 0.125, 0), -8192);
        Check.same("0.125 / 8192", reckoned(6, 0.125, 8192, 0), 0);
        Check.same("-0.125 / 8192", reckoned(6, -0.125, 8192, 0), -0.125);
        Check.same("1024 / 0.125", reckoned(6, 1024, 0.125, 0), 8192);
        Check.same("1023.875 / 0.125", reckoned(6, 1023.875, 0.125, 0), 8191);
    }

    private static void limit() {
        Check.same("below", reckoned(7, -50, 40, -40), -40);
        Check.same("above", reckoned(7, 50, 40, -40), 40);
        Check.same("between", reckoned(7, 39.875, 40, -40), 39.875);
        Check.same("at the top", reckoned(7, 40, 40, -40), 40);
        Check.same("one value", reckoned(7, 50, 3, 3), 3);
        Check.same("untuned", reckoned(7, 50, 0, 0), 0);
    }

    private static void outputOfTheNumberBlocks() {
        for (int kind = 5; kind <= 7; kind++) {
            LadderScan x = Check.through(kind, 0, 0);
            x.tune(0, 1, 0);
            x.put(0, 0.5);
            run(x, new int[][] {{0, 0, 0}, {1, 1, 0}, {1, 1, 0}, {0, 0, 0}});
            Check.same("register 0 onto itself", x.register(0), 0.5);
        }
    }

    private static void neverTuned() {
        for (int kind = 5; kind <= 7; kind += 2) {
            LadderScan x = Check.through(kind, 0, 1);
            x.put(0, 5);
            x.put(1, 5);
            run(x, new int[][] {{1, 1, 0}});
            Check.same("factor and offset are 0", x.register(1), 0);
        }
    }

    private static void aBlockMayWorkTwiceInAScan() {
        LadderScan x = new LadderScan();
        x.block(0, 5, 0);
        x.block(3, 0, 0);
        Check.rung(x, 0, 0, 0, 9, 0);
        Check.rung(x, 1, 0, 0, 9, 0);
        Check.rung(x, 2, 0, 0, 9, 1, 10, 8);
        Check.rung(x, 3, 0, 0, 9, 1, 10, 9);
        x.download();
        x.wire(0, 1);
        x.scan(2);
        Check.same("COUNT", x.state(0, 2), 4);
        x.wire(0, 0);
        x.scan(1);
        x.wire(0, 1);
        x.scan(1);
        Check.same("rises at the first working", x.out(8), 1);
        Check.same("not at the second", x.out(9), 0);
    }
}
