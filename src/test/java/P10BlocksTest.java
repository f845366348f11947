/** Promise 10: how each kind of block works in a scan. */
public final class P10BlocksTest {
    public static void main(String[] args) {
        onDelay();
        onDelayOfOneAndOfAHundred();
        offDelay();
        offDelayOfOneAndOfAHundred();
        counterCountsRises();
        counterIsFull();
        counterIsReset();
        counterToOneAndToAHundred();
        counterResetByTheFirstAndTheLastBit();
        counterThatResetsItself();
        rising();
        falling();
        scale();
        scaleIsFit();
        divide();
        divideIsFit();
        limit();
        outputOfTheNumberBlocks();
        firstAndLastRegister();
        aBlockMayWorkTwiceInAScan();
        aBlockThatIsNotReachedDoesNotWork();
        Check.end();
    }

    private static void onDelay() {
        Check.sentence("0: COUNT becomes the lesser of COUNT + 1 and p if x is 1, else 0; the output is 1 if x is 1 and COUNT is p.");
        Check.works(Check.through(0, 3, 0), new int[][] {{0, 0, 0}, {1, 0, 1}, {1, 0, 2}, {1, 1, 3}, {1, 1, 3}, {0, 0, 0},
            {0, 0, 0}, {1, 0, 1}, {1, 0, 2}, {0, 0, 0}, {1, 0, 1}});
    }

    private static void onDelayOfOneAndOfAHundred() {
        Check.sentence("0 ON-DELAY, of p scans (p 1 .. 100)");
        Check.works(Check.through(0, 1, 0), new int[][] {{1, 1, 1}, {1, 1, 1}, {0, 0, 0}, {1, 1, 1}});
        Plc x = Check.through(0, 100, 0);
        x.wire(0, 1);
        for (int i = 0; i < 9; i++) {
            x.scan(11);
        }
        Check.same("COUNT", x.state(0, 2), 99);
        Check.same("output", x.state(0, 1), 0);
        Check.works(x, new int[][] {{1, 1, 100}, {1, 1, 100}, {0, 0, 0}});
    }

    private static void offDelay() {
        Check.sentence("1: COUNT becomes p if x is 1, else one less, not below 0; the output is 1 if COUNT is above 0.");
        Check.works(Check.through(1, 3, 0), new int[][] {{0, 0, 0}, {1, 1, 3}, {1, 1, 3}, {0, 1, 2}, {0, 1, 1}, {1, 1, 3},
            {0, 1, 2}, {0, 1, 1}, {0, 0, 0}, {0, 0, 0}, {1, 1, 3}});
    }

    private static void offDelayOfOneAndOfAHundred() {
        Check.sentence("1 OFF-DELAY, of p scans (p 1 .. 100)");
        Check.works(Check.through(1, 1, 0), new int[][] {{1, 1, 1}, {0, 0, 0}, {0, 0, 0}, {1, 1, 1}});
        Plc x = Check.through(1, 100, 0);
        Check.works(x, 1, 1, 100);
        x.wire(0, 0);
        for (int i = 0; i < 9; i++) {
            x.scan(11);
        }
        Check.same("COUNT", x.state(0, 2), 1);
        Check.same("output", x.state(0, 1), 1);
        Check.works(x, new int[][] {{0, 0, 0}, {0, 0, 0}});
    }

    private static void counterCountsRises() {
        Check.sentence("2: ... else if x is 1 and was 0 at the last working (0 before), COUNT is one more");
        Check.works(Check.through(2, 3, 1), new int[][] {{1, 0, 1}, {1, 0, 1}, {0, 0, 1}, {0, 0, 1}, {1, 0, 2}, {0, 0, 2},
            {1, 1, 3}});
    }

    private static void counterIsFull() {
        Check.sentence("2: ... COUNT is one more, p at most; the output is 1 if COUNT is p.");
        Check.works(Check.through(2, 2, 1), new int[][] {{0, 0, 0}, {1, 0, 1}, {0, 0, 1}, {1, 1, 2}, {0, 1, 2}, {1, 1, 2},
            {0, 1, 2}, {1, 1, 2}});
    }

    private static void counterIsReset() {
        Check.sentence("2: if the bit q reads 1, COUNT becomes 0");
        Plc x = Check.through(2, 2, 1);
        Check.works(x, new int[][] {{1, 0, 1}, {0, 0, 1}, {1, 1, 2}});
        x.wire(1, 1);
        Check.works(x, new int[][] {{1, 0, 0}, {0, 0, 0}, {1, 0, 0}});
        x.wire(1, 0);
        Check.works(x, new int[][] {{1, 0, 0}, {0, 0, 0}, {1, 0, 1}});
        x.wire(1, 1);
        Check.works(x, new int[][] {{0, 0, 0}});
        x.wire(1, 0);
        Check.works(x, new int[][] {{1, 0, 1}});
    }

    private static void counterToOneAndToAHundred() {
        Check.sentence("2 COUNTER to p (p 1 .. 100)");
        Check.works(Check.through(2, 1, 1), new int[][] {{0, 0, 0}, {1, 1, 1}, {0, 1, 1}, {1, 1, 1}});
        Plc x = new Plc();
        x.block(2, 100, 7);
        // Six rises in a scan: the same block works with 1 and with 0 by turns.
        Check.rung(x, 0, 0, 0, 9, 0, 0, 1, 9, 0, 0, 0, 9, 0, 0, 1, 9, 0);
        Check.rung(x, 1, 0, 0, 9, 0, 0, 1, 9, 0, 0, 0, 9, 0, 0, 1, 9, 0);
        Check.rung(x, 2, 0, 0, 9, 0, 0, 1, 9, 0, 0, 0, 9, 0, 0, 1, 9, 0);
        x.download();
        x.wire(0, 1);
        x.scan(16);
        Check.same("COUNT", x.state(0, 2), 96);
        Check.same("output", x.state(0, 1), 0);
        x.scan(1);
        Check.same("COUNT", x.state(0, 2), 100);
        Check.same("output", x.state(0, 1), 1);
        x.scan(1);
        Check.same("COUNT", x.state(0, 2), 100);
    }

    private static void counterResetByTheFirstAndTheLastBit() {
        Check.sentence("2 COUNTER to p, reset by bit q (q 0 .. 31)");
        Plc first = new Plc();
        first.block(2, 5, 0);
        Check.rung(first, 0, 0, 1, 9, 0);
        first.download();
        first.wire(1, 1);
        first.scan(1);
        Check.same("counted", first.state(0, 2), 1);
        first.wire(0, 1);
        first.scan(1);
        Check.same("reset by bit 0", first.state(0, 2), 0);
        Plc last = new Plc();
        last.block(2, 5, 31);
        Check.rung(last, 0, 0, 1, 9, 0, 0, 0, 10, 31);
        last.download();
        last.wire(1, 1);
        last.scan(1);
        Check.same("counted", last.state(0, 2), 1);
        last.wire(0, 1);
        last.scan(1);
        Check.same("bit 31 is set only behind the counter", last.state(0, 2), 1);
        last.scan(1);
        Check.same("reset by bit 31", last.state(0, 2), 0);
    }

    private static void counterThatResetsItself() {
        Check.sentence("2: if the bit q reads 1 (as it then is)");
        Plc x = new Plc();
        x.block(2, 2, 16);
        Check.rung(x, 0, 0, 0, 9, 0, 10, 16);
        x.download();
        int[][] rows = {{1, 1, 0}, {0, 1, 0}, {1, 2, 1}, {0, 0, 0}, {1, 1, 0}};
        for (int[] row : rows) {
            x.wire(0, row[0]);
            x.scan(1);
            Check.same("COUNT", x.state(0, 2), row[1]);
            Check.same("bit 16", x.bit(16), row[2]);
        }
    }

    private static void rising() {
        Check.sentence("3: the output is 1 if x is 1 and was 0");
        Check.works(Check.through(3, 0, 0), new int[][] {{0, 0, 0}, {1, 1, 0}, {1, 0, 0}, {0, 0, 0}, {0, 0, 0}, {1, 1, 0}});
        Check.works(Check.through(3, 0, 0), new int[][] {{1, 1, 0}, {1, 0, 0}});
    }

    private static void falling() {
        Check.sentence("4: if x is 0 and was 1");
        Check.works(Check.through(4, 0, 0), new int[][] {{0, 0, 0}, {1, 0, 0}, {1, 0, 0}, {0, 1, 0}, {0, 0, 0}, {1, 0, 0},
            {0, 1, 0}});
        Check.works(Check.through(4, 0, 0), new int[][] {{1, 0, 0}, {0, 1, 0}});
    }

    private static double reckoned(int kind, double register, double factor, double offset) {
        Plc x = Check.through(kind, 6, 3);
        x.tune(0, factor, offset);
        x.put(6, register);
        x.put(3, 77);
        x.scan(1);
        Check.same("untouched while x is 0", x.register(3), 77);
        x.wire(0, 1);
        x.scan(1);
        Check.same("register p stays", x.register(6), register);
        return x.register(3);
    }

    private static void scale() {
        Check.sentence("5 SCALE: register q becomes FIT(register p times the block's factor plus its offset)");
        Check.same("100 * 20 - 3", reckoned(5, 100, 20, -3), 1997);
        Check.same("-100 * 20 + 3", reckoned(5, -100, 20, 3), -1997);
        Check.same("0 * 8192 + 0.125", reckoned(5, 0, 8192, 0.125), 0.125);
        Check.same("4096 * 0 + 0", reckoned(5, 4096, 0, 0), 0);
        Check.same("1.5 * 0.375", reckoned(5, 1.5, 0.375, 0), 0.5);
        Check.same("-1.5 * 0.375 + 0.125", reckoned(5, -1.5, 0.375, 0.125), -0.5);
        Check.same("0.125 * 0.125", reckoned(5, 0.125, 0.125, 0), 0);
        Check.same("-0.125 * 0.125", reckoned(5, -0.125, 0.125, 0), -0.125);
        Check.same("-0.125 * -0.125", reckoned(5, -0.125, -0.125, 0), 0);
        Check.same("0.875 * 0.125", reckoned(5, 0.875, 0.125, 0), 0);
        Check.same("8191.875 * 0.125", reckoned(5, 8191.875, 0.125, 0), 1023.875);
    }

    private static void scaleIsFit() {
        Check.sentence("FIT(v) ... brought into this range (SCALE)");
        Check.same("8192 * 1", reckoned(5, 8192, 1, 0), 8192);
        Check.same("8192 * 1 + 0.125", reckoned(5, 8192, 1, 0.125), 8192);
        Check.same("8192 * 1 - 0.125", reckoned(5, 8192, 1, -0.125), 8191.875);
        Check.same("-8192 * 1 - 0.125", reckoned(5, -8192, 1, -0.125), -8192);
        Check.same("-8192 * 1 + 0.125", reckoned(5, -8192, 1, 0.125), -8191.875);
        Check.same("8192 * 8192", reckoned(5, 8192, 8192, 8192), 8192);
        Check.same("-8192 * -8192", reckoned(5, -8192, -8192, 0), 8192);
        Check.same("8192 * -8192", reckoned(5, 8192, -8192, -8192), -8192);
        Check.same("4096 * 4 - 8192", reckoned(5, 4096, 4, -8192), 8192);
        Check.same("into range only at the end", reckoned(5, 4096, 3, -8192), 4096);
        Check.same("into range only at the end", reckoned(5, -4096, 3, 8192), -4096);
    }

    private static void divide() {
        Check.sentence("6 DIVIDE: register q becomes FIT(register p / the block's factor)");
        Check.same("1997 / 12", reckoned(6, 1997, 12, 0), 166.375);
        Check.same("-2023 / 12", reckoned(6, -2023, 12, 0), -168.625);
        Check.same("1 / 3", reckoned(6, 1, 3, 0), 0.25);
        Check.same("1 / -3", reckoned(6, 1, -3, 0), -0.375);
        Check.same("-1 / 3", reckoned(6, -1, 3, 0), -0.375);
        Check.same("-1 / -3", reckoned(6, -1, -3, 0), 0.25);
        Check.same("0 / 3", reckoned(6, 0, 3, 0), 0);
        Check.same("0 / -0.125", reckoned(6, 0, -0.125, 0), 0);
        Check.same("6 / 0.375", reckoned(6, 6, 0.375, 0), 16);
        Check.same("the offset has no part in it", reckoned(6, 6, 3, 100), 2);
    }

    private static void divideIsFit() {
        Check.sentence("FIT(v) ... brought into this range (DIVIDE)");
        Check.same("1024 / 0.125", reckoned(6, 1024, 0.125, 0), 8192);
        Check.same("1024.125 / 0.125", reckoned(6, 1024.125, 0.125, 0), 8192);
        Check.same("1023.875 / 0.125", reckoned(6, 1023.875, 0.125, 0), 8191);
        Check.same("-1024 / 0.125", reckoned(6, -1024, 0.125, 0), -8192);
        Check.same("-1024.125 / 0.125", reckoned(6, -1024.125, 0.125, 0), -8192);
        Check.same("8192 / 0.125", reckoned(6, 8192, 0.125, 0), 8192);
        Check.same("8192 / -0.125", reckoned(6, 8192, -0.125, 0), -8192);
        Check.same("-8192 / -0.125", reckoned(6, -8192, -0.125, 0), 8192);
        Check.same("0.125 / 8192", reckoned(6, 0.125, 8192, 0), 0);
        Check.same("-0.125 / 8192", reckoned(6, -0.125, 8192, 0), -0.125);
    }

    private static void limit() {
        Check.sentence("7 LIMIT: register q becomes register p, brought between offset and factor.");
        Check.same("below", reckoned(7, -50, 40, -40), -40);
        Check.same("an eighth below", reckoned(7, -40.125, 40, -40), -40);
        Check.same("at the offset", reckoned(7, -40, 40, -40), -40);
        Check.same("an eighth above the offset", reckoned(7, -39.875, 40, -40), -39.875);
        Check.same("an eighth below the factor", reckoned(7, 39.875, 40, -40), 39.875);
        Check.same("at the factor", reckoned(7, 40, 40, -40), 40);
        Check.same("an eighth above", reckoned(7, 40.125, 40, -40), 40);
        Check.same("above", reckoned(7, 50, 40, -40), 40);
        Check.same("one value, from above", reckoned(7, 50, 3, 3), 3);
        Check.same("one value, from below", reckoned(7, -50, 3, 3), 3);
        Check.same("both above 0", reckoned(7, 0, 5, 2), 2);
        Check.same("both below 0", reckoned(7, 0, -2, -5), -2);
        Check.same("the whole range", reckoned(7, 8192, 8192, -8192), 8192);
        Check.same("the whole range", reckoned(7, -8192, 8192, -8192), -8192);
        Check.same("never tuned", reckoned(7, 50, 0, 0), 0);
    }

    private static void outputOfTheNumberBlocks() {
        Check.sentence("5 to 7: if x is 1 they do as told; the output is x.");
        for (int kind = 5; kind <= 7; kind++) {
            Plc x = Check.through(kind, 0, 0);
            x.tune(0, 1, 0);
            x.put(0, 0.5);
            Check.works(x, new int[][] {{0, 0, 0}, {1, 1, 0}, {1, 1, 0}, {0, 0, 0}});
            Check.same("register 0 onto itself", x.register(0), 0.5);
            x.tune(0, 2, -1);
            x.put(0, 3);
            Check.works(x, 0, 0, 0);
            Check.same("nothing is done while x is 0", x.register(0), 3);
        }
    }

    private static void firstAndLastRegister() {
        Check.sentence("REGISTERS 0 .. 7");
        for (int kind = 5; kind <= 7; kind++) {
            for (int from = 0; from <= 7; from += 7) {
                Plc x = Check.through(kind, from, 7 - from);
                x.tune(0, 1, 0);
                x.put(from, 0.5);
                x.put(7 - from, 99);
                x.wire(0, 1);
                x.scan(1);
                Check.same("register p", x.register(from), 0.5);
                Check.same("register q", x.register(7 - from), 0.5);
                for (int other = 1; other < 7; other++) {
                    Check.same("register " + other, x.register(other), 0);
                }
            }
        }
        Plc x = Check.through(5, 4, 4);
        x.tune(0, 2, 0.125);
        x.put(4, 1);
        x.wire(0, 1);
        x.scan(3);
        Check.same("onto itself, three times", x.register(4), 8.875);
    }

    private static void aBlockMayWorkTwiceInAScan() {
        Check.sentence("9 BLOCK a works with the top, which becomes its output.");
        Plc x = new Plc();
        x.block(0, 5, 0);
        x.block(3, 0, 0);
        Check.rung(x, 0, 0, 0, 9, 0);
        Check.rung(x, 1, 0, 0, 9, 0);
        Check.rung(x, 2, 0, 0, 9, 1, 10, 8);
        Check.rung(x, 3, 0, 0, 9, 1, 10, 9);
        x.download();
        x.wire(0, 1);
        x.scan(2);
        Check.same("COUNT", x.state(0, 2), 4);
        x.wire(0, 0);
        x.scan(1);
        x.wire(0, 1);
        x.scan(1);
        Check.same("rises at the first working", x.out(8), 1);
        Check.same("not at the second", x.out(9), 0);
    }

    private static void aBlockThatIsNotReachedDoesNotWork() {
        Check.sentence("x is 1 and was 0 at the last working");
        Plc x = new Plc();
        x.block(3, 0, 0);
        x.block(1, 9, 0);
        Check.rung(x, 0, 0, 1, 13, 2);
        Check.rung(x, 1, 0, 0, 9, 0, 10, 8, 0, 0, 9, 1);
        x.download();
        x.wire(0, 1);
        x.scan(1);
        Check.same("rises", x.out(8), 1);
        x.wire(0, 0);
        x.wire(1, 1);
        x.scan(1);
        Check.same("its output stays", x.state(0, 1), 1);
        Check.same("COUNT stays", x.state(1, 2), 9);
        x.wire(0, 1);
        x.wire(1, 0);
        x.scan(1);
        Check.same("the 0 came while it did not work", x.out(8), 0);
    }
}
