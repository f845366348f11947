import java.util.Random;

/** Long runs of calls, drawn from fixed seeds, must answer as the model does. */
public final class RandomRunsTest {
    private static final int RUNS = 3000;
    private static final int CALLS = 512;
    private static final String[] NAMES = {"block", "tune", "step", "step", "step", "step", "erase", "download", "wire",
        "wire", "put", "force", "scan", "scan", "scan", "scan", "restart", "fail", "bit", "out", "register", "state",
        "count"};

    private final Random random;
    private String name;
    private int a;
    private int b;
    private int c;
    private double d;
    private double e;

    private RandomRunsTest(long seed) {
        random = new Random(seed);
    }

    public static void main(String[] args) {
        int wrong = 0;
        for (int run = 0; run < RUNS && wrong < 5; run++) {
            wrong += new RandomRunsTest(run).isWrong(run) ? 1 : 0;
        }
        Check.same("wrong runs", wrong, 0);
        Check.end();
    }

    private boolean isWrong(int run) {
        LadderScan x = new LadderScan();
        Model model = new Model();
        for (int i = 0; i < CALLS; i++) {
            draw(i);
            String got = Check.answer(() -> made(x));
            String due = Check.answer(() -> model.call(name, a, b, c, d, e));
            if (!got.equals(due)) {
                System.out.println("run " + run + ", call " + i + ": " + name + " " + a + " " + b + " " + c + " " + d + " " + e
                    + " answered " + got + ", due is " + due);
                return true;
            }
        }
        return false;
    }

    /** Mostly calls that are in range, now and then one a little outside. */
    private void draw(int call) {
        name = NAMES[random.nextInt(NAMES.length)];
        if (call < 40) {
            name = call < 8 ? "block" : "step";
        }
        d = drawNumber();
        e = drawNumber();
        boolean outside = random.nextInt(20) == 0;
        switch (name) {
            case "block": drawAll(8, 9, 9); break;
            case "tune": case "state": drawAll(10, 3, 1); break;
            case "step": drawStep(); break;
            case "erase": drawAll(12, 1, 1); break;
            case "wire": drawAll(8, 2, 1); break;
            case "force": drawAll(32, 3, 1); b--; break;
            case "scan": a = 1 + random.nextInt(random.nextInt(10) == 0 ? 20 : 3); break;
            case "out": a = 8 + random.nextInt(8); break;
            case "bit": drawAll(32, 1, 1); break;
            case "count": drawAll(6, 1, 1); break;
            default: drawAll(8, 1, 1);
        }
        if (outside) {
            a += random.nextInt(70) - 35;
            b += random.nextInt(5) - 2;
            c += random.nextInt(70) - 35;
        }
    }

    private void drawStep() {
        drawAll(12, 14, 32);
        if (random.nextInt(3) == 0) {
            b = random.nextInt(2);
        }
        if (b == 9) {
            c = random.nextInt(10);
        } else if (b == 8) {
            c = random.nextInt(64);
        } else if (b == 13) {
            c = random.nextInt(12);
            a = random.nextInt(3) == 0 ? a : Math.min(a, c);
        } else if (b >= 10) {
            c = 8 + random.nextInt(24);
        }
    }

    private void drawAll(int boundA, int boundB, int boundC) {
        a = random.nextInt(boundA);
        b = random.nextInt(boundB);
        c = random.nextInt(boundC);
    }

    private double drawNumber() {
        switch (random.nextInt(12)) {
            case 0: return 0;
            case 1: return random.nextInt(3) * 8192 - 8192;
            case 2: return random.nextDouble() * 17000 - 8500;
            case 3: return random.nextDouble() - 0.5;
            case 4: return (random.nextInt(131073) - 65536) / 8.0;
            case 5: return random.nextInt(40) == 0 ? Double.NaN : 1;
            default: return (random.nextInt(161) - 80) / 8.0;
        }
    }

    private double made(LadderScan x) {
        switch (name) {
            case "block": return x.block(a, b, c);
            case "tune": return x.tune(a, d, e);
            case "step": return x.step(a, b, c);
            case "erase": return x.erase(a);
            case "download": return x.download();
            case "wire": return x.wire(a, b);
            case "put": return x.put(a, d);
            case "force": return x.force(a, b);
            case "scan": return x.scan(a);
            case "restart": return x.restart();
            case "fail": return x.fail();
            case "bit": return x.bit(a);
            case "out": return x.out(a);
            case "register": return x.register(a);
            case "state": return x.state(a, b);
            default: return x.count(a);
        }
    }
}
