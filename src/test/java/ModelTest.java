import java.util.Random;

/** Runs of mixed calls, the same ones every time, on the class and on the model: every answer must be the same. */
public final class ModelTest {
    private static final int RUNS = 1500;
    private static final int CALLS = 512;
    private static final int[] WRONG = {-1, 4, 99, Integer.MIN_VALUE, Integer.MAX_VALUE};

    private final Random random;
    private final SplitFabric real = new SplitFabric();
    private final Model model = new Model();
    private final String run;
    /** Addresses are drawn from few words, so that requests often meet. */
    private final int spread;
    private final int kindBias;
    private final int moveBias;
    private int calls = 0;

    private ModelTest(int seed) {
        random = new Random(seed);
        run = "run " + seed;
        spread = 1 + random.nextInt(16);
        kindBias = random.nextInt(4);
        moveBias = random.nextInt(5);
    }

    public static void main(String[] args) {
        for (int seed = 0; seed < RUNS && Check.wrongSoFar() == 0; seed++) {
            new ModelTest(seed).go();
        }
        Check.end();
    }

    private void go() {
        for (int target = 0; target < 3; target++) {
            if (random.nextInt(3) != 0) {
                ready(target, true);
            }
        }
        while (calls < CALLS && Check.wrongSoFar() == 0) {
            step();
        }
    }

    private void step() {
        int pick = random.nextInt(24 + moveBias);
        if (pick < 7) {
            issue(small(4), kind(), address(), length(), small(4));
        } else if (pick < 10) {
            takeSome();
        } else if (pick == 10) {
            data(small(4), small(4), random.nextInt());
        } else if (pick == 11) {
            ready(small(3), random.nextInt(3) != 0);
        } else if (pick == 12) {
            base(small(4), small(3));
        } else if (pick == 13 && random.nextInt(4) == 0) {
            reset(small(4));
        } else if (pick == 14 && random.nextInt(3) == 0) {
            cycles(random.nextInt(12) == 0 ? small(101) : 1 + random.nextInt(20));
        } else if (pick < 18) {
            look();
        } else {
            cycle();
        }
    }

    private int small(int bound) {
        return random.nextInt(60) == 0 ? WRONG[random.nextInt(WRONG.length)] : random.nextInt(bound);
    }

    private int kind() {
        int drawn = small(5 + 2 * kindBias);
        return drawn >= 5 && drawn < 11 ? drawn & 1 : drawn;
    }

    private int address() {
        int region = random.nextInt(9) == 0 ? 3 : random.nextInt(3);
        return random.nextInt(60) == 0 ? small(70) : 16 * region + random.nextInt(spread);
    }

    private int length() {
        return random.nextInt(2) == 0 ? 1 : random.nextInt(30) == 0 ? random.nextInt(6) : 1 + random.nextInt(4);
    }

    private void takeSome() {
        int from = random.nextInt(16);
        for (int n = from; n < from + 16; n++) {
            int master = n % 16 / 4;
            int tag = n % 4;
            if (model.state(master, tag) >= 3) {
                if (random.nextBoolean()) {
                    word(master, tag, small(4));
                }
                take(master, tag);
                return;
            }
        }
        take(small(4), small(4));
    }

    private void look() {
        switch (random.nextInt(9)) {
            case 0: state(small(4), small(4)); break;
            case 1: word(small(4), small(4), small(4)); break;
            case 2: waits(small(4)); break;
            case 3: credits(small(3)); break;
            case 4: holder(small(3)); break;
            case 5: memory(small(49)); break;
            case 6: due("served()", () -> model.served(), () -> real.served()); break;
            case 7: due("time()", () -> model.time(), () -> real.time()); break;
            default: service(small(model.served() + 2), small(7)); break;
        }
    }

    private void due(String call, Check.Call modelled, Check.Call done) {
        calls++;
        Check.due(run + " call " + calls + ": " + call, Check.answerOf(modelled), done);
    }

    private static Check.Call after(Check.Act act) {
        return () -> {
            act.run();
            return "nothing";
        };
    }

    private void data(int m, int i, int w) {
        due("data(" + m + ", " + i + ", " + w + ")", after(() -> model.data(m, i, w)), after(() -> real.data(m, i, w)));
    }

    private void issue(int m, int k, int a, int l, int t) {
        due("issue(" + m + ", " + k + ", " + a + ", " + l + ", " + t + ")",
                after(() -> model.issue(m, k, a, l, t)), after(() -> real.issue(m, k, a, l, t)));
    }

    private void ready(int t, boolean is) {
        due("ready(" + t + ", " + is + ")", after(() -> model.ready(t, is)), after(() -> real.ready(t, is)));
    }

    private void cycle() {
        due("cycle()", () -> model.cycle(), () -> real.cycle());
    }

    private void cycles(int n) {
        due("cycles(" + n + ")", () -> model.cycles(n), () -> real.cycles(n));
    }

    private void state(int m, int t) {
        due("state(" + m + ", " + t + ")", () -> model.state(m, t), () -> real.state(m, t));
    }

    private void word(int m, int t, int i) {
        due("word(" + m + ", " + t + ", " + i + ")", () -> model.word(m, t, i), () -> real.word(m, t, i));
    }

    private void take(int m, int t) {
        due("take(" + m + ", " + t + ")", () -> model.take(m, t), () -> real.take(m, t));
    }

    private void base(int m, int c) {
        due("base(" + m + ", " + c + ")", after(() -> model.base(m, c)), after(() -> real.base(m, c)));
    }

    private void waits(int m) {
        due("waits(" + m + ")", () -> model.waits(m), () -> real.waits(m));
    }

    private void reset(int m) {
        due("reset(" + m + ")", () -> model.reset(m), () -> real.reset(m));
    }

    private void credits(int t) {
        due("credits(" + t + ")", () -> model.credits(t), () -> real.credits(t));
    }

    private void holder(int t) {
        due("holder(" + t + ")", () -> model.holder(t), () -> real.holder(t));
    }

    private void memory(int a) {
        due("memory(" + a + ")", () -> model.memory(a), () -> real.memory(a));
    }

    private void service(int i, int w) {
        due("service(" + i + ", " + w + ")", () -> model.service(i, w), () -> real.service(i, w));
    }
}
