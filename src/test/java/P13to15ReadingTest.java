/** Promises 13, 14 and 15: bit, out and register. */
public final class P13to15ReadingTest {
    private static final Class<?> ARGUMENT = IllegalArgumentException.class;

    public static void main(String[] args) {
        bitIsZeroToThirtyOne();
        outIsEightToFifteen();
        registerIsZeroToSeven();
        eachBitForItself();
        outIsTheWire();
        eachRegisterForItself();
        readingChangesNothing();
        Check.end();
    }

    private static void bitIsZeroToThirtyOne() {
        Check.sentence("What a bit reads. IllegalArgumentException: not 0 .. 31.");
        for (int wrong : new int[] {Integer.MIN_VALUE, -1, 32, Integer.MAX_VALUE}) {
            Check.refusesAlways("bit(" + wrong + ")", ARGUMENT, x -> x.bit(wrong));
        }
    }

    private static void outIsEightToFifteen() {
        Check.sentence("The wire of an output (8 .. 15). IllegalArgumentException: another bit.");
        for (int wrong : new int[] {Integer.MIN_VALUE, -1, 0, 7, 16, 24, 31, 32, Integer.MAX_VALUE}) {
            Check.refusesAlways("out(" + wrong + ")", ARGUMENT, x -> x.out(wrong));
        }
    }

    private static void registerIsZeroToSeven() {
        Check.sentence("A register. IllegalArgumentException: not 0 .. 7.");
        for (int wrong : new int[] {Integer.MIN_VALUE, -1, 8, Integer.MAX_VALUE}) {
            Check.refusesAlways("register(" + wrong + ")", ARGUMENT, x -> x.register(wrong));
        }
    }

    private static void eachBitForItself() {
        Check.sentence("BITS 0 .. 31: 0 to 7 INPUTS, 8 to 15 OUTPUTS, 16 to 31 MARKERS");
        for (int set = 0; set < 32; set++) {
            Plc x = new Plc();
            if (set < 8) {
                x.wire(set, 1);
            } else {
                Check.rung(x, 0, 1, 0, 10, set);
            }
            x.download();
            x.scan(1);
            for (int i = 0; i < 32; i++) {
                Check.same("bit " + i + " after " + set, x.bit(i), i == set ? 1 : 0);
            }
            for (int i = 8; i < 16; i++) {
                Check.same("out " + i + " after " + set, x.out(i), i == set ? 1 : 0);
            }
        }
    }

    private static void outIsTheWire() {
        Check.sentence("The wire of an output");
        for (int bit = 8; bit < 16; bit++) {
            Plc x = new Plc();
            x.force(bit, 1);
            Check.same("the bit reads 1", x.bit(bit), 1);
            Check.same("its wire does not yet", x.out(bit), 0);
            x.scan(1);
            Check.same("its wire does", x.out(bit), 1);
            x.force(bit, -1);
            Check.same("the bit reads 0", x.bit(bit), 0);
            Check.same("its wire does not yet", x.out(bit), 1);
            x.scan(1);
            Check.same("its wire does", x.out(bit), 0);
        }
    }

    private static void eachRegisterForItself() {
        Check.sentence("REGISTERS 0 .. 7 hold numbers");
        Plc x = new Plc();
        for (int i = 0; i < 8; i++) {
            x.put(i, i * 1000 - 0.125);
        }
        for (int i = 0; i < 8; i++) {
            Check.same("register " + i, x.register(i), i * 1000 - 0.125);
        }
    }

    private static void readingChangesNothing() {
        Check.sentence("What a bit reads ... The wire of an output ... A register");
        Plc x = Check.busy();
        Plc y = x.again();
        x.bit(0);
        x.bit(31);
        x.out(8);
        x.out(15);
        x.register(0);
        x.register(7);
        x.state(0, 0);
        x.state(7, 2);
        x.count(0);
        x.count(5);
        Check.isTrue("nothing changes", Probe.of(x).equals(Probe.of(y)));
    }
}
