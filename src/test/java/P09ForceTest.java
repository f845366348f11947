/** Promise 9: force. */
public final class P09ForceTest {
    private static final Class<?> ARGUMENT = IllegalArgumentException.class;

    public static void main(String[] args) {
        answersWhatItWasForcedTo();
        bitIsZeroToThirtyOne();
        valueIsMinusOneToOne();
        inputsTakenInBehindAForce();
        setBehindAForce();
        latchedBehindAForce();
        clearedBehindAForce();
        sentOut();
        stepsReadTheForce();
        coilsReadTheForceOfTheirTop();
        counterReadsTheForceOfItsReset();
        allBitsForced();
        Check.end();
    }

    private static void answersWhatItWasForcedTo() {
        Check.sentence("Forces a bit to 0 or 1, or no more (-1): what it was forced to, or -1.");
        for (int bit = 0; bit < 32; bit++) {
            Plc x = new Plc();
            Check.same("not forced to 1", x.force(bit, 1), -1);
            Check.same("reads", x.bit(bit), 1);
            Check.same("1 to 1", x.force(bit, 1), 1);
            Check.same("forced bits", x.count(5), 1);
            Check.same("1 to 0", x.force(bit, 0), 1);
            Check.same("reads", x.bit(bit), 0);
            Check.same("forced bits", x.count(5), 1);
            Check.same("0 to no more", x.force(bit, -1), 0);
            Check.same("no more again", x.force(bit, -1), -1);
            Check.same("forced bits", x.count(5), 0);
            x.force(bit, 1);
            Check.same("1 to no more", x.force(bit, -1), 1);
            Check.same("reads what it is", x.bit(bit), 0);
            for (int other = 0; other < 32; other++) {
                Check.same("bit " + other, x.bit(other), 0);
            }
        }
    }

    private static void bitIsZeroToThirtyOne() {
        Check.sentence("IllegalArgumentException: out of range. (the bit)");
        for (int bit : new int[] {Integer.MIN_VALUE, -1, 32, Integer.MAX_VALUE}) {
            for (int value = -1; value <= 1; value++) {
                int v = value;
                Check.refusesAlways("force(" + bit + ", " + v + ")", ARGUMENT, x -> x.force(bit, v));
            }
        }
    }

    private static void valueIsMinusOneToOne() {
        Check.sentence("IllegalArgumentException: out of range. (the value)");
        for (int value : new int[] {Integer.MIN_VALUE, -2, 2, Integer.MAX_VALUE}) {
            for (int bit : new int[] {0, 9, 30, 31}) {
                Check.refusesAlways("force(" + bit + ", " + value + ")", ARGUMENT, x -> x.force(bit, value));
            }
        }
    }

    private static void inputsTakenInBehindAForce() {
        Check.sentence("it reads as that, whatever it is set to (an input by its wire)");
        for (int input : new int[] {0, 7}) {
            for (int value = 0; value <= 1; value++) {
                Plc x = new Plc();
                x.force(input, value);
                x.wire(input, 1 - value);
                x.scan(1);
                Check.same("reads the force", x.bit(input), value);
                x.force(input, -1);
                Check.same("was taken in behind it", x.bit(input), 1 - value);
            }
        }
    }

    /** Bit a is made the opposite of its force by the op (10 SET, 11 LATCH, 12 CLEAR), when input 0 is top. */
    private static void behindAForce(int op, int bit, int top, int force) {
        Plc x = new Plc();
        Check.rung(x, 0, 0, 0, op, bit);
        Check.rung(x, 1, 0, bit, 10, 15);
        if (op == 12) {
            Check.rung(x, 2, 0, 1, 10, bit);
        }
        x.download();
        if (op == 12) {
            x.wire(1, 1);
            x.scan(1);
            x.erase(2);
            x.download();
        }
        x.force(bit, force);
        x.wire(0, top);
        x.scan(1);
        Check.same("bit " + bit + " reads the force", x.bit(bit), force);
        Check.same("a step reads the force", x.out(15), force);
        x.force(bit, -1);
        Check.same("bit " + bit + " itself", x.bit(bit), 1 - force);
        x.wire(0, op == 10 ? top : 0);
        x.scan(1);
        Check.same("a step reads the bit itself", x.out(15), 1 - force);
    }

    private static void setBehindAForce() {
        Check.sentence("it reads as that, whatever it is set to (SET)");
        for (int bit : new int[] {8, 14, 16, 23, 24, 31}) {
            behindAForce(10, bit, 1, 0);
            behindAForce(10, bit, 0, 1);
        }
    }

    private static void latchedBehindAForce() {
        Check.sentence("it reads as that, whatever it is set to (LATCH)");
        for (int bit : new int[] {8, 14, 16, 23, 24, 31}) {
            behindAForce(11, bit, 1, 0);
        }
        Plc x = new Plc();
        Check.rung(x, 0, 0, 0, 11, 16);
        x.download();
        x.force(16, 1);
        x.scan(1);
        x.force(16, -1);
        Check.same("a force alone latches nothing", x.bit(16), 0);
    }

    private static void clearedBehindAForce() {
        Check.sentence("it reads as that, whatever it is set to (CLEAR)");
        for (int bit : new int[] {8, 14, 16, 23, 24, 31}) {
            behindAForce(12, bit, 1, 1);
        }
        Plc x = new Plc();
        Check.rung(x, 0, 1, 0, 10, 16);
        x.download();
        x.scan(1);
        x.erase(0);
        Check.rung(x, 0, 0, 0, 12, 16);
        x.download();
        x.force(16, 0);
        x.scan(1);
        x.force(16, -1);
        Check.same("a force alone clears nothing", x.bit(16), 1);
    }

    private static void sentOut() {
        Check.sentence("3. Each wire of an OUTPUT becomes what the output reads.");
        for (int bit : new int[] {8, 15}) {
            Plc x = new Plc();
            Check.rung(x, 0, 0, 0, 10, bit);
            x.download();
            x.force(bit, 1);
            Check.same("the wire waits for the scan", x.out(bit), 0);
            x.scan(1);
            Check.same("the force goes out", x.out(bit), 1);
            x.force(bit, 0);
            x.wire(0, 1);
            Check.same("the wire waits for the scan", x.out(bit), 1);
            x.scan(1);
            Check.same("the force goes out", x.out(bit), 0);
            x.force(bit, -1);
            Check.same("the bit was set", x.bit(bit), 1);
            Check.same("the wire waits for the scan", x.out(bit), 0);
            x.scan(1);
            Check.same("the bit itself goes out", x.out(bit), 1);
        }
    }

    private static void stepsReadTheForce() {
        Check.sentence("A bit may be FORCED to 0 or 1: it reads as that");
        for (int force = 0; force <= 1; force++) {
            Plc x = new Plc();
            Check.rung(x, 0, 0, 3, 10, 8, 1, 3, 10, 9);
            Check.rung(x, 1, 1, 7, 2, 3, 10, 10, 1, 7, 3, 3, 10, 11);
            Check.rung(x, 2, 0, 7, 4, 3, 10, 12, 0, 7, 5, 3, 10, 13);
            x.download();
            x.wire(3, 1 - force);
            x.force(3, force);
            x.scan(1);
            for (int bit = 8; bit < 14; bit++) {
                Check.same("op " + (bit - 8), x.out(bit), bit % 2 == 0 ? force : 1 - force);
            }
        }
    }

    private static void coilsReadTheForceOfTheirTop() {
        Check.sentence("10 SET: bit a becomes the top, which stays.");
        Plc x = new Plc();
        Check.rung(x, 0, 0, 0, 10, 8, 10, 9);
        x.download();
        x.wire(0, 1);
        x.force(8, 0);
        x.scan(1);
        Check.same("bit 9 is the top, not what bit 8 reads", x.out(9), 1);
        Check.same("bit 8 reads 0", x.out(8), 0);
    }

    private static void counterReadsTheForceOfItsReset() {
        Check.sentence("2: if the bit q reads 1, COUNT becomes 0");
        Plc x = Check.through(2, 5, 2);
        Check.works(x, 1, 0, 1);
        x.force(2, 1);
        Check.works(x, 1, 0, 0);
        x.wire(2, 1);
        x.force(2, 0);
        Check.works(x, 0, 0, 0);
        Check.works(x, 1, 0, 1);
        x.force(2, -1);
        Check.works(x, 1, 0, 0);
    }

    private static void allBitsForced() {
        Check.sentence("forced bits (5)");
        Plc x = new Plc();
        for (int bit = 0; bit < 32; bit++) {
            x.force(bit, bit % 2);
            Check.same("forced bits", x.count(5), bit + 1);
        }
        x.scan(1);
        for (int bit = 0; bit < 32; bit++) {
            Check.same("bit " + bit, x.bit(bit), bit % 2);
        }
        for (int bit = 8; bit < 16; bit++) {
            Check.same("out " + bit, x.out(bit), bit % 2);
        }
    }
}
