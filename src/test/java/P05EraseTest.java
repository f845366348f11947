/** Promise 5: erase. */
public final class P05EraseTest {
    private static final Class<?> ARGUMENT = IllegalArgumentException.class;

    public static void main(String[] args) {
        LadderScan x = new LadderScan();
        for (int rung = 0; rung < 12; rung++) {
            for (int i = 0; i < rung % 11; i++) {
                x.step(rung, i == 0 ? 1 : 2, 31);
            }
        }
        Check.refuses("rung -1", x, ARGUMENT, () -> x.erase(-1));
        Check.refuses("rung 12", x, ARGUMENT, () -> x.erase(12));
        for (int rung = 0; rung < 12; rung++) {
            Check.same("erase " + rung, x.erase(rung), rung % 11);
            Check.same("erase again " + rung, x.erase(rung), 0);
        }
        theStackIsEmptyThen();
        theProgramStays();
        Check.end();
    }

    private static void theStackIsEmptyThen() {
        LadderScan x = new LadderScan();
        Check.rung(x, 0, 0, 0, 0, 0, 0, 0, 0, 0);
        x.erase(0);
        Check.refuses("AND", x, UnsupportedOperationException.class, () -> x.step(0, 2, 0));
        Check.same("LOAD", x.step(0, 0, 0), 1);
    }

    private static void theProgramStays() {
        LadderScan x = new LadderScan();
        Check.rung(x, 0, 1, 0, 10, 8);
        x.download();
        x.erase(0);
        x.scan(1);
        Check.same("out(8)", x.out(8), 1);
        Check.same("steps of the program", x.count(4), 2);
        Check.same("download", x.download(), 0);
        Check.same("steps of the program", x.count(4), 0);
    }
}
