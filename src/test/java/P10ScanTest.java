/** Promise 10: scan: its arguments, the order of things, jumps and failures. */
public final class P10ScanTest {
    private static final Class<?> ARGUMENT = IllegalArgumentException.class;
    private static final Class<?> STATE = IllegalStateException.class;
    private static final Class<?> ARITHMETIC = ArithmeticException.class;

    public static void main(String[] args) {
        nIsOneToTwenty();
        answersTheRungsOfAllScans();
        nIsTestedBeforeStopped();
        itHasStopped();
        rungsGoInOrder();
        inputsComeFirst();
        outputsGoLast();
        aJumpLeavesOut();
        aJumpToTheFirstAndTheLastRung();
        noJumpWithZero();
        thirtyRungsAreFine();
        aThirtyFirstRungIsAFailure();
        anEmptyRungIsBegunToo();
        tooManyRungsStop();
        divideByZeroStops();
        divideByZeroWithZero();
        divideByZeroInTheMiddle();
        aFailureInTheMiddleOfNScans();
        aFailureInTheLastOfTwentyScans();
        Check.end();
    }

    private static void nIsOneToTwenty() {
        Check.sentence("Makes n (1 .. 20) scans ... IllegalArgumentException: out of range.");
        for (int n : new int[] {Integer.MIN_VALUE, -1, 0, 21, Integer.MAX_VALUE}) {
            Check.refusesAlways("scan(" + n + ")", ARGUMENT, x -> x.scan(n));
        }
        Plc x = new Plc();
        Check.same("scan(1)", x.scan(1), 12);
        Check.same("scans", x.count(0), 1);
        Check.same("scan(20)", x.scan(20), 240);
        Check.same("scans", x.count(0), 21);
    }

    private static void answersTheRungsOfAllScans() {
        Check.sentence("answers how many rungs were begun in all");
        Plc x = new Plc();
        x.block(0, 3, 0);
        Check.rung(x, 0, 1, 31, 9, 0, 13, 10);
        x.download();
        Check.same("12 and 12 and 3 and 3", x.scan(4), 30);
        Check.same("3", x.scan(1), 3);
        Check.same("20 times 3", x.scan(20), 60);
    }

    private static void nIsTestedBeforeStopped() {
        Check.sentence("What is thrown is told in the order of testing");
        Plc x = Check.stopped();
        Check.refuses("scan(0)", x, ARGUMENT, () -> x.scan(0));
        Check.refuses("scan(21)", x, ARGUMENT, () -> x.scan(21));
        Check.refuses("scan(1)", x, STATE, () -> x.scan(1));
    }

    private static void itHasStopped() {
        Check.sentence("IllegalStateException: it has STOPPED");
        Plc x = Check.stopped();
        x.wire(0, 0);
        x.wire(7, 1);
        Check.refuses("scan(1)", x, STATE, () -> x.scan(1));
        Check.refuses("scan(20)", x, STATE, () -> x.scan(20));
        Check.same("no input is taken in", x.bit(7), 0);
        Check.same("failed scans", x.count(1), 1);
        Check.same("scans", x.count(0), 0);
        x.restart();
        Check.same("goes on", x.scan(1), 12);
        Check.same("input 7", x.bit(7), 1);
    }

    private static void rungsGoInOrder() {
        Check.sentence("2. The rungs are done from rung 0 on, each once, but for jumps, up to the last one");
        Plc x = new Plc();
        Check.rung(x, 0, 0, 17, 10, 16);
        Check.rung(x, 1, 0, 0, 10, 17);
        Check.rung(x, 2, 0, 17, 10, 18);
        Check.rung(x, 11, 0, 18, 10, 19);
        x.download();
        x.wire(0, 1);
        x.scan(1);
        Check.same("read before it was set", x.bit(16), 0);
        Check.same("read after it was set", x.bit(18), 1);
        Check.same("the last rung", x.bit(19), 1);
        x.scan(1);
        Check.same("read in the next scan", x.bit(16), 1);
        Plc each = new Plc();
        each.block(0, 100, 0);
        for (int rung = 0; rung < 12; rung++) {
            Check.rung(each, rung, 1, 31, 9, 0);
        }
        each.download();
        each.scan(1);
        Check.same("each of 12 rungs once", each.state(0, 2), 12);
    }

    private static void inputsComeFirst() {
        Check.sentence("1. each INPUT becomes what is on its wire");
        for (int input = 0; input < 8; input++) {
            Plc x = new Plc();
            Check.rung(x, 0, 0, input, 10, 8);
            x.download();
            x.wire(input, 1);
            x.scan(1);
            Check.same("input " + input + " in the same scan", x.out(8), 1);
            for (int other = 0; other < 8; other++) {
                Check.same("input " + other, x.bit(other), other == input ? 1 : 0);
            }
        }
    }

    private static void outputsGoLast() {
        Check.sentence("3. Each wire of an OUTPUT becomes what the output reads.");
        for (int output = 8; output < 16; output++) {
            Plc x = new Plc();
            Check.rung(x, 0, 1, 31, 10, output);
            Check.rung(x, 11, 0, 0, 12, output);
            x.download();
            x.wire(0, 1);
            x.scan(1);
            Check.same("only what is there at the end", x.out(output), 0);
            x.wire(0, 0);
            x.scan(1);
            for (int other = 8; other < 16; other++) {
                Check.same("out(" + other + ")", x.out(other), other == output ? 1 : 0);
            }
        }
        Plc marker = new Plc();
        Check.rung(marker, 0, 1, 31, 10, 16);
        marker.download();
        marker.scan(1);
        for (int other = 8; other < 16; other++) {
            Check.same("out(" + other + ") for marker 16", marker.out(other), 0);
        }
    }

    private static void aJumpLeavesOut() {
        Check.sentence("13 JUMP: if the top is 1, the rung is over, and rung a is the next one.");
        Plc x = new Plc();
        Check.rung(x, 0, 0, 0, 13, 4, 1, 31, 10, 16);
        Check.rung(x, 1, 1, 31, 10, 17);
        Check.rung(x, 3, 1, 31, 10, 19);
        Check.rung(x, 4, 1, 31, 10, 20);
        x.download();
        x.wire(0, 1);
        Check.same("rungs 0, 4 .. 11", x.scan(1), 9);
        Check.same("the rest of the rung is left out", x.bit(16), 0);
        Check.same("rung 1 is left out", x.bit(17), 0);
        Check.same("rung 3 is left out", x.bit(19), 0);
        Check.same("rung 4 is done", x.bit(20), 1);
        Check.same("three scans", x.scan(3), 27);
    }

    private static void aJumpToTheFirstAndTheLastRung() {
        Check.sentence("13 JUMP ... rung a (0 .. 11)");
        Plc last = new Plc();
        Check.rung(last, 0, 1, 31, 13, 11);
        Check.rung(last, 11, 1, 31, 10, 8);
        last.download();
        Check.same("rungs 0 and 11", last.scan(1), 2);
        Check.same("rung 11 is done", last.out(8), 1);
        Plc first = new Plc();
        first.block(3, 0, 0);
        Check.rung(first, 0, 0, 31, 9, 0);
        Check.rung(first, 11, 1, 31, 9, 0, 10, 8, 13, 0);
        first.download();
        Check.fails("from the last to the first for ever", STATE, () -> first.scan(1));
        Plc once = new Plc();
        once.block(3, 0, 0);
        Check.rung(once, 11, 1, 31, 9, 0, 13, 0);
        once.download();
        Check.same("from the last to the first, once", once.scan(1), 24);
        Check.same("no rise any more", once.scan(1), 12);
        Plc next = new Plc();
        Check.rung(next, 5, 1, 31, 13, 6);
        next.download();
        Check.same("to the next rung", next.scan(1), 12);
    }

    private static void noJumpWithZero() {
        Check.sentence("13 JUMP: if the top is 1");
        Plc x = new Plc();
        Check.rung(x, 0, 0, 0, 13, 11, 1, 31, 13, 10, 10, 8);
        Check.rung(x, 10, 1, 31, 10, 9);
        x.download();
        Check.same("the second jump: 0, 10, 11", x.scan(1), 3);
        Check.same("nothing behind it", x.out(8), 0);
        Check.same("rung 10", x.out(9), 1);
        x.wire(0, 1);
        Check.same("the first jump: 0, 11", x.scan(1), 2);
        Plc stays = new Plc();
        Check.rung(stays, 0, 0, 0, 13, 11, 4, 1, 10, 8);
        stays.download();
        stays.wire(1, 1);
        Check.same("no jump", stays.scan(1), 12);
        Check.same("the top was still there", stays.out(8), 1);
    }

    /** Rung 11 is begun again until an on-delay of so many workings is over. */
    private static Plc begunAgain(int times) {
        Plc x = new Plc();
        x.block(0, times, 0);
        Check.rung(x, 11, 1, 31, 9, 0, 10, 8, 0, 31, 5, 8, 13, 11);
        x.download();
        return x;
    }

    private static void thirtyRungsAreFine() {
        Check.sentence("a 31st rung begun is a FAILURE (the 30th is none)");
        Plc x = begunAgain(19);
        Check.same("11 and 19 times rung 11", x.scan(1), 30);
        Check.same("made in full", x.count(0), 1);
        Check.same("none failed", x.count(1), 0);
        Check.same("not stopped", x.count(2), 0);
        Check.same("out(8)", x.out(8), 1);
        Plc below = begunAgain(18);
        Check.same("11 and 18 times rung 11", below.scan(1), 29);
        Plc often = new Plc();
        Check.rung(often, 11, 1, 16, 10, 16, 13, 0);
        often.download();
        Check.same("24 in each of 20 scans", often.scan(20), 480);
        Check.same("scans", often.count(0), 20);
    }

    private static void aThirtyFirstRungIsAFailure() {
        Check.sentence("a 31st rung begun is a FAILURE");
        Plc x = begunAgain(20);
        Check.fails("31 rungs", STATE, () -> x.scan(1));
        Check.same("the 31st was not done", x.state(0, 2), 19);
        Check.same("failed", x.count(1), 1);
        Check.same("stopped", x.count(2), 1);
        x.restart();
        Check.same("a new scan counts anew", x.scan(1), 12);
    }

    private static void anEmptyRungIsBegunToo() {
        Check.sentence("a 31st rung begun is a FAILURE (though it be empty)");
        Plc x = new Plc();
        x.block(0, 3, 0);
        // Rung 6 goes back to rung 0 twice, and once to rung 2, from where ten more are begun.
        Check.rung(x, 6, 1, 31, 9, 0, 10, 16, 1, 16, 13, 0, 1, 31, 3, 17, 11, 17, 13, 2);
        x.download();
        Check.fails("7 and 7 and 7 and 10", STATE, () -> x.scan(1));
        Check.same("bit 17", x.bit(17), 1);
        Plc y = new Plc();
        y.block(0, 3, 0);
        Check.rung(y, 6, 1, 31, 9, 0, 10, 16, 1, 16, 13, 0, 1, 31, 3, 17, 11, 17, 13, 3);
        y.download();
        Check.same("7 and 7 and 7 and 9", y.scan(1), 30);
    }

    private static void tooManyRungsStop() {
        Check.sentence("With a failure the controller STOPS: all wires of outputs become 0; what was done by then stays.");
        Plc x = new Plc();
        x.block(1, 5, 0);
        Check.rung(x, 0, 0, 1, 10, 8, 1, 31, 10, 9, 10, 15, 11, 24, 9, 0);
        Check.rung(x, 1, 0, 0, 13, 1);
        Check.rung(x, 2, 1, 31, 10, 16);
        x.download();
        x.wire(1, 1);
        Check.same("in full", x.scan(2), 24);
        Check.same("out(8)", x.out(8), 1);
        Check.same("out(15)", x.out(15), 1);
        x.wire(0, 1);
        x.wire(1, 0);
        x.force(12, 1);
        Check.fails("a rung that jumps to itself", STATE, () -> x.scan(3));
        Check.same("scans in full", x.count(0), 2);
        Check.same("failed scans", x.count(1), 1);
        Check.same("stopped", x.count(2), 1);
        for (int i = 8; i < 16; i++) {
            Check.same("out(" + i + ")", x.out(i), 0);
        }
        Check.same("the input was taken in", x.bit(0), 1);
        Check.same("bit 8 was set by then", x.bit(8), 0);
        Check.same("bit 9 stays", x.bit(9), 1);
        Check.same("bit 15 stays", x.bit(15), 1);
        Check.same("bit 12 reads its force", x.bit(12), 1);
        Check.same("bit 16 stays", x.bit(16), 1);
        Check.same("bit 24 stays", x.bit(24), 1);
        Check.same("COUNT stays", x.state(0, 2), 5);
        Check.same("output stays", x.state(0, 1), 1);
    }

    private static void divideByZeroStops() {
        Check.sentence("as is a DIVIDE with a factor 0 that x is 1 for");
        Plc x = new Plc();
        x.block(6, 0, 1);
        Check.rung(x, 0, 1, 31, 10, 8);
        Check.rung(x, 1, 0, 0, 9, 0, 10, 9);
        Check.rung(x, 2, 0, 0, 10, 10);
        x.download();
        x.put(0, 5);
        x.put(1, 3);
        x.scan(1);
        x.wire(0, 1);
        x.force(11, 1);
        Check.fails("factor 0", ARITHMETIC, () -> x.scan(20));
        Check.same("scans in full", x.count(0), 1);
        Check.same("failed scans", x.count(1), 1);
        Check.same("stopped", x.count(2), 1);
        Check.same("out(8)", x.out(8), 0);
        Check.same("a forced output's wire is 0 too", x.out(11), 0);
        Check.same("bit 8 stays", x.bit(8), 1);
        Check.same("the input was taken in", x.bit(0), 1);
        Check.same("the step behind it", x.bit(9), 0);
        Check.same("the rung behind it", x.bit(10), 0);
        Check.same("register 0", x.register(0), 5);
        Check.same("register 1", x.register(1), 3);
        Check.same("the block did not come to its output", x.state(0, 1), 0);
        x.restart();
        x.tune(0, 2, 0);
        Check.same("goes on", x.scan(1), 12);
        Check.same("register 1", x.register(1), 2.5);
        Check.same("out(8)", x.out(8), 1);
        Check.same("out(11)", x.out(11), 1);
    }

    private static void divideByZeroWithZero() {
        Check.sentence("a DIVIDE with a factor 0 that x is 1 for (x is 0)");
        Plc x = Check.through(6, 0, 1);
        x.put(0, 5);
        x.put(1, 3);
        Check.same("20 scans", x.scan(20), 240);
        Check.same("register 1", x.register(1), 3);
        Check.same("failed scans", x.count(1), 0);
        Check.same("output", x.state(0, 1), 0);
        x.tune(0, 2, 0);
        Check.works(x, 1, 1, 0);
        x.tune(0, 0, 5);
        Check.works(x, 0, 0, 0);
        Check.same("register 1", x.register(1), 2.5);
        x.wire(0, 1);
        Check.fails("an offset is no factor", ARITHMETIC, () -> x.scan(1));
        Plc scaled = Check.through(5, 0, 1);
        Check.works(scaled, 1, 1, 0);
        Plc limited = Check.through(7, 0, 1);
        Check.works(limited, 1, 1, 0);
    }

    private static void divideByZeroInTheMiddle() {
        Check.sentence("what was done by then stays");
        Plc x = new Plc();
        x.block(6, 0, 1);
        x.block(0, 9, 0);
        x.block(5, 2, 3);
        x.tune(2, 2, 1);
        x.put(2, 4);
        Check.rung(x, 0, 1, 31, 10, 8, 9, 2, 9, 1, 1, 31, 9, 0, 10, 9);
        x.download();
        Check.fails("in the same rung", ARITHMETIC, () -> x.scan(1));
        Check.same("set before it", x.bit(8), 1);
        Check.same("scaled before it", x.register(3), 9);
        Check.same("counted before it", x.state(1, 2), 1);
        Check.same("not set behind it", x.bit(9), 0);
        Check.same("out(8)", x.out(8), 0);
    }

    private static void aFailureInTheMiddleOfNScans() {
        Check.sentence("ArithmeticException: a scan fails by a DIVIDE. (the fourth of ten)");
        Plc x = new Plc();
        x.block(0, 4, 0);
        x.block(6, 0, 1);
        Check.rung(x, 0, 1, 31, 10, 8, 9, 0, 9, 1);
        x.download();
        Check.fails("scan(10)", ARITHMETIC, () -> x.scan(10));
        Check.same("scans in full", x.count(0), 3);
        Check.same("failed scans", x.count(1), 1);
        Check.same("worked four times", x.state(0, 2), 4);
        Check.same("the wires of the third scan are gone", x.out(8), 0);
        x.restart();
        Check.fails("scan(10)", ARITHMETIC, () -> x.scan(10));
        Check.same("scans in full", x.count(0), 3);
        Check.same("failed scans", x.count(1), 2);
        Check.sentence("or a scan now fails by too many rungs (the fourth of ten)");
        Plc y = new Plc();
        y.block(0, 4, 0);
        Check.rung(y, 0, 1, 31, 10, 8, 9, 0, 13, 0);
        y.download();
        Check.fails("scan(10)", STATE, () -> y.scan(10));
        Check.same("scans in full", y.count(0), 3);
        Check.same("failed scans", y.count(1), 1);
        Check.same("stopped", y.count(2), 1);
        Check.same("out(8)", y.out(8), 0);
    }

    private static void aFailureInTheLastOfTwentyScans() {
        Check.sentence("ArithmeticException: a scan fails by a DIVIDE. (the first and the last of twenty)");
        for (int when : new int[] {1, 20, 21}) {
            Plc x = new Plc();
            x.block(0, when, 0);
            x.block(6, 0, 1);
            Check.rung(x, 0, 1, 31, 9, 0, 9, 1);
            x.download();
            if (when <= 20) {
                Check.fails("scan(20)", ARITHMETIC, () -> x.scan(20));
            } else {
                Check.same("scan(20)", x.scan(20), 240);
            }
            Check.same("scans in full", x.count(0), Math.min(20, when - 1));
            Check.same("stopped", x.count(2), when <= 20 ? 1 : 0);
        }
    }
}
