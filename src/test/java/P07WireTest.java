/** Promise 7: wire. */
public final class P07WireTest {
    private static final Class<?> ARGUMENT = IllegalArgumentException.class;

    public static void main(String[] args) {
        answersWhatWasOnIt();
        inputIsZeroToSeven();
        valueIsZeroOrOne();
        aScanTakesItIn();
        itStays();
        Check.end();
    }

    private static void answersWhatWasOnIt() {
        Check.sentence("Puts 0 or 1 on the wire of an input (0 .. 7): what was on it.");
        Plc x = new Plc();
        for (int i = 0; i < 8; i++) {
            Check.same("0 to 1", x.wire(i, 1), 0);
            Check.same("1 to 1", x.wire(i, 1), 1);
            Check.same("1 to 0", x.wire(i, 0), 1);
            Check.same("0 to 0", x.wire(i, 0), 0);
            Check.same("0 to i % 2", x.wire(i, i % 2), 0);
        }
        for (int i = 0; i < 8; i++) {
            Check.same("each for itself", x.wire(i, 0), i % 2);
        }
    }

    private static void inputIsZeroToSeven() {
        Check.sentence("IllegalArgumentException: out of range. (the input)");
        for (int input : new int[] {Integer.MIN_VALUE, -1, 8, 15, 31, Integer.MAX_VALUE}) {
            Check.refusesAlways("wire(" + input + ", 0)", ARGUMENT, x -> x.wire(input, 0));
            Check.refusesAlways("wire(" + input + ", 1)", ARGUMENT, x -> x.wire(input, 1));
        }
    }

    private static void valueIsZeroOrOne() {
        Check.sentence("IllegalArgumentException: out of range. (the value)");
        for (int value : new int[] {Integer.MIN_VALUE, -1, 2, Integer.MAX_VALUE}) {
            Check.refusesAlways("wire(0, " + value + ")", ARGUMENT, x -> x.wire(0, value));
            Check.refusesAlways("wire(7, " + value + ")", ARGUMENT, x -> x.wire(7, value));
        }
    }

    private static void aScanTakesItIn() {
        Check.sentence("1. each INPUT becomes what is on its wire");
        Plc x = new Plc();
        for (int i = 0; i < 8; i++) {
            x.wire(i, i % 2);
            Check.same("an input waits for the scan", x.bit(i), 0);
        }
        x.scan(1);
        for (int i = 0; i < 8; i++) {
            Check.same("taken in", x.bit(i), i % 2);
            x.wire(i, 1 - i % 2);
            Check.same("waits again", x.bit(i), i % 2);
        }
        x.scan(1);
        for (int i = 0; i < 32; i++) {
            Check.same("taken in", x.bit(i), i < 8 ? 1 - i % 2 : 0);
        }
    }

    private static void itStays() {
        Check.sentence("Puts 0 or 1 on the wire of an input (it stays there)");
        Plc x = new Plc();
        x.wire(0, 1);
        x.wire(7, 1);
        x.scan(20);
        x.scan(20);
        Check.same("bit 0", x.bit(0), 1);
        Check.same("bit 7", x.bit(7), 1);
        Check.same("wire 0", x.wire(0, 1), 1);
        Check.same("wire 7", x.wire(7, 1), 1);
    }
}
