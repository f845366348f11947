/** Promise 17: count. */
public final class P17CountTest {
    private static final Class<?> ARGUMENT = IllegalArgumentException.class;
    private static final Class<?> STATE = IllegalStateException.class;

    public static void main(String[] args) {
        anotherNumber();
        scansMadeInFull();
        scansThatFailed();
        stopped();
        blocks();
        stepsOfTheProgram();
        forcedBits();
        allOfThem();
        Check.end();
    }

    private static void anotherNumber() {
        Check.sentence("IllegalArgumentException: another number.");
        for (int what : new int[] {Integer.MIN_VALUE, -1, 6, Integer.MAX_VALUE}) {
            Check.refusesAlways("count(" + what + ")", ARGUMENT, x -> x.count(what));
        }
    }

    private static void scansMadeInFull() {
        Check.sentence("Scans made in full (0)");
        Plc x = new Plc();
        int due = 0;
        for (int n = 1; n <= 20; n++) {
            x.scan(n);
            due += n;
            Check.same("scans", x.count(0), due);
        }
        Check.refuses("scan(21)", x, ARGUMENT, () -> x.scan(21));
        Check.same("a refused call makes none", x.count(0), due);
        x.fail();
        Check.same("power does not take them", x.count(0), due);
    }

    private static Plc looping() {
        Plc x = new Plc();
        Check.rung(x, 0, 0, 0, 13, 0);
        x.download();
        x.scan(2);
        x.wire(0, 1);
        return x;
    }

    private static void scansThatFailed() {
        Check.sentence("scans that failed (1)");
        Plc x = looping();
        Check.same("none yet", x.count(1), 0);
        for (int failures = 1; failures <= 3; failures++) {
            Check.fails("loops", STATE, () -> x.scan(5));
            Check.same("failed", x.count(1), failures);
            Check.refuses("stopped", x, STATE, () -> x.scan(5));
            Check.same("a refused call fails none", x.count(1), failures);
            Check.same("in full", x.count(0), 2);
            x.restart();
        }
        x.fail();
        Check.same("power does not take them", x.count(1), 3);
    }

    private static void stopped() {
        Check.sentence("1 if it has STOPPED, else 0 (2)");
        Plc x = looping();
        Check.same("running", x.count(2), 0);
        Check.fails("loops", STATE, () -> x.scan(1));
        Check.same("stopped", x.count(2), 1);
        x.wire(0, 0);
        x.download();
        Check.same("still", x.count(2), 1);
        x.restart();
        Check.same("restarted", x.count(2), 0);
        x.wire(0, 1);
        Check.fails("loops", STATE, () -> x.scan(1));
        x.fail();
        Check.same("power came back", x.count(2), 0);
    }

    private static void blocks() {
        Check.sentence("blocks (3)");
        Plc x = new Plc();
        for (int made = 0; made < 10; made++) {
            Check.same("blocks", x.count(3), made);
            x.block(3, 0, 0);
        }
        Check.same("blocks", x.count(3), 10);
        Check.refuses("an 11th", x, STATE, () -> x.block(3, 0, 0));
        Check.same("blocks", x.count(3), 10);
    }

    private static void stepsOfTheProgram() {
        Check.sentence("steps of the PROGRAM (4)");
        Plc x = new Plc();
        for (int rung = 0; rung < 12; rung++) {
            Check.rung(x, rung, 0, 0, 2, 1, 2, 2, 2, 3, 2, 4, 2, 5, 2, 6, 2, 7, 2, 8, 2, 9);
            Check.same("not yet", x.count(4), rung * 10);
            x.download();
            Check.same("steps", x.count(4), rung * 10 + 10);
        }
        x.erase(0);
        Check.same("erased, but running", x.count(4), 120);
        x.download();
        Check.same("steps", x.count(4), 110);
        x.fail();
        Check.same("steps", x.count(4), 110);
    }

    private static void forcedBits() {
        Check.sentence("forced bits (5)");
        Plc x = new Plc();
        for (int bit = 0; bit < 32; bit++) {
            x.force(bit, bit % 2);
        }
        Check.same("all", x.count(5), 32);
        for (int bit = 0; bit < 32; bit++) {
            x.force(bit, -1);
            Check.same("no more", x.count(5), 31 - bit);
        }
    }

    private static void allOfThem() {
        Check.sentence("Scans made in full (0), scans that failed (1), 1 if it has STOPPED, else 0 (2), blocks (3), steps of the PROGRAM (4), forced bits (5).");
        Plc x = new Plc();
        counts(x, 0, 0, 0, 0, 0, 0);
        x.scan(5);
        x.block(3, 0, 0);
        x.block(4, 0, 0);
        Check.rung(x, 0, 0, 0, 13, 0);
        Check.rung(x, 11, 0, 0);
        counts(x, 5, 0, 0, 2, 0, 0);
        x.download();
        x.force(0, 1);
        x.force(31, 0);
        x.force(16, 0);
        counts(x, 5, 0, 0, 2, 3, 3);
        Check.fails("loops", STATE, () -> x.scan(1));
        counts(x, 5, 1, 1, 2, 3, 3);
        x.restart();
        Check.fails("loops", STATE, () -> x.scan(1));
        counts(x, 5, 2, 1, 2, 3, 3);
        x.erase(0);
        x.force(0, -1);
        counts(x, 5, 2, 1, 2, 3, 2);
        x.fail();
        counts(x, 5, 2, 0, 2, 3, 2);
        x.download();
        x.scan(20);
        counts(x, 25, 2, 0, 2, 1, 2);
    }

    private static void counts(Plc x, int... due) {
        for (int i = 0; i < due.length; i++) {
            Check.same("count " + i, x.count(i), due[i]);
        }
    }
}
