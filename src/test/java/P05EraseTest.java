/** Promise 5: erase. */
public final class P05EraseTest {
    private static final Class<?> ARGUMENT = IllegalArgumentException.class;

    public static void main(String[] args) {
        answersHowManyStepsItHad();
        anEmptyRung();
        aFullRung();
        rungIsZeroToEleven();
        theStackIsEmptyThen();
        otherRungsStay();
        theProgramStays();
        Check.end();
    }

    private static void answersHowManyStepsItHad() {
        Check.sentence("Empties a rung; answers how many steps it had.");
        Plc x = new Plc();
        for (int rung = 0; rung < 12; rung++) {
            for (int i = 0; i < rung % 11; i++) {
                x.step(rung, i == 0 ? 1 : 2, 31);
            }
        }
        for (int rung = 0; rung < 12; rung++) {
            Check.same("erase " + rung, x.erase(rung), rung % 11);
            Check.same("erase again " + rung, x.erase(rung), 0);
        }
        Check.same("nothing is left", x.download(), 0);
    }

    private static void anEmptyRung() {
        Check.sentence("Empties a rung (an empty one)");
        Plc x = Check.busy();
        Plc y = x.again();
        Check.same("erase(10)", x.erase(10), 0);
        y.count(0);
        Check.isTrue("nothing changes", Probe.of(x).equals(Probe.of(y)));
    }

    private static void aFullRung() {
        Check.sentence("Empties a rung (a full one)");
        Plc x = new Plc();
        for (int round = 0; round < 3; round++) {
            for (int i = 0; i < 10; i++) {
                x.step(11, i < 4 ? 0 : 2, i);
            }
            Check.refuses("an 11th step", x, IllegalStateException.class, () -> x.step(11, 2, 0));
            Check.same("erase(11)", x.erase(11), 10);
        }
    }

    private static void rungIsZeroToEleven() {
        Check.sentence("IllegalArgumentException: not 0 .. 11.");
        for (int rung : new int[] {Integer.MIN_VALUE, -1, 12, Integer.MAX_VALUE}) {
            Check.refusesAlways("rung " + rung, ARGUMENT, x -> x.erase(rung));
        }
        Plc x = Check.busy();
        Check.same("rung 0", x.erase(0), 3);
        Check.same("rung 11", x.erase(11), 10);
    }

    private static void theStackIsEmptyThen() {
        Check.sentence("Empties a rung (its stack too)");
        Plc x = new Plc();
        Check.rung(x, 0, 0, 0, 0, 0, 0, 0, 0, 0);
        x.erase(0);
        Check.refuses("AND", x, UnsupportedOperationException.class, () -> x.step(0, 2, 0));
        for (int values = 1; values <= 4; values++) {
            Check.same("LOAD", x.step(0, 0, 0), values);
        }
    }

    private static void otherRungsStay() {
        Check.sentence("Empties a rung (and no other)");
        Plc x = new Plc();
        for (int rung = 4; rung <= 6; rung++) {
            Check.rung(x, rung, 1, 31, 10, 4 + rung);
        }
        x.erase(5);
        Check.same("download", x.download(), 4);
        x.scan(1);
        Check.same("rung 4", x.out(8), 1);
        Check.same("rung 5", x.out(9), 0);
        Check.same("rung 6", x.out(10), 1);
    }

    private static void theProgramStays() {
        Check.sentence("THE PROGRAM that runs is that of the last DOWNLOAD: the rungs as they were then");
        Plc x = new Plc();
        Check.rung(x, 0, 1, 0, 10, 8);
        x.download();
        x.erase(0);
        Check.same("steps of the program", x.count(4), 2);
        x.scan(1);
        Check.same("out(8)", x.out(8), 1);
        Check.same("download", x.download(), 0);
        Check.same("steps of the program", x.count(4), 0);
    }
}
