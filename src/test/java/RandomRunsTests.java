import java.util.Random;

/** Long runs of calls, the same in each test run, on the class and on NaiveStick: both have to answer alike. */
public final class RandomRunsTests {
    private static final int CALLS = 512;
    private static final int[] ODD = {
        Integer.MIN_VALUE, -10001, -1001, -101, -10, -9, -8, -2, -1, 0, 1, 2, 3, 4, 5, 6, 7, 8, 9, 10, 11, 12, 13, 22,
        99, 100, 101, 400, 401, 1000, 1001, 2000, 2001, 5000, 5001, 10000, 10001, 60000, 60001, 1000000, 1000001,
        Integer.MAX_VALUE
    };

    private final Checks checks;
    private final Random random;
    private final PushStick stick = new PushStick();
    private final NaiveStick naive = new NaiveStick();
    /** How great the times of this run are, so that some runs are crowded and others long. */
    private final int span;
    /** Whether this run takes numbers mostly from the edges of what they may be. */
    private final boolean edgy;

    private RandomRunsTests(Checks checks, long seed) {
        this.checks = checks;
        this.random = new Random(seed);
        int[] spans = {6, 20, 60, 300, 3000};
        this.span = spans[random.nextInt(spans.length)];
        this.edgy = random.nextInt(4) == 0;
    }

    public static void main(String[] args) {
        Checks checks = new Checks("RandomRunsTests");
        for (long seed = 1; seed <= 1500 && checks.wrong() < 20; seed++) {
            new RandomRunsTests(checks, seed).run(seed, 0);
        }
        for (long seed = 1501; seed <= 1506 && checks.wrong() < 20; seed++) {
            RandomRunsTests late = new RandomRunsTests(checks, seed);
            late.run(seed, late.nearTheEndOfTime());
        }
        checks.end();
    }

    private void run(long seed, int callsBefore) {
        for (int i = callsBefore; i < CALLS && checks.wrong() < 20; i++) {
            oneCall("seed " + seed + ", call " + i + ": ");
        }
    }

    /** How many calls it took to come there. */
    private int nearTheEndOfTime() {
        int calls = 99;
        for (int i = 0; i < calls; i++) {
            checks.due("long ago", stick.pass(100000), naive.pass(100000));
        }
        int rest = 100000 - 20 * span;
        checks.due("long ago", stick.pass(rest), naive.pass(rest));
        return calls + 1;
    }

    private int from(int least, int most) {
        if (edgy && random.nextBoolean()) {
            int step = random.nextInt(2);
            return random.nextBoolean() ? Math.min(least + step, most) : Math.max(most - step, least);
        }
        return least + random.nextInt(most - least + 1);
    }

    /** Mostly an ordinary number, now and then one that may be wrong. */
    private int or(int usual) {
        return random.nextInt(40) == 0 ? ODD[random.nextInt(ODD.length)] : usual;
    }

    private int anEffect() {
        int n = Math.max(1, naive.many(0));
        return or(random.nextInt(15) == 0 ? n : random.nextInt(n));
    }

    private int time(int most) {
        return Math.min(most, random.nextInt(10) == 0 ? from(0, most) : from(0, span));
    }

    private void oneCall(String at) {
        int kindOfCall = random.nextInt(100);
        if (kindOfCall < 8) {
            anyEffect(at);
        } else if (kindOfCall < 24) {
            anySet(at);
        } else if (kindOfCall < 58) {
            anyDeed(at);
        } else {
            anyQuestion(at);
        }
    }

    private void anyEffect(String at) {
        int kind = or(random.nextInt(7));
        int a = 0;
        int b = 0;
        int c = 0;
        int d = 0;
        switch (kind) {
            case 0 -> a = from(-1000, 1000);
            case 1, 2 -> {
                a = from(0, 1000);
                b = from(-1000, 1000);
                c = Math.max(2, time(2000));
                d = random.nextInt(c);
            }
            case 3 -> {
                a = from(-1000, 1000);
                b = from(-1000, 1000);
            }
            case 4 -> {
                a = from(-100, 100);
                b = from(-1000, 1000);
                c = from(0, 300);
                d = from(0, 1000);
            }
            case 5 -> {
                a = from(-100, 100);
                c = from(0, 9999);
                d = from(0, 1000);
            }
            case 6 -> {
                a = from(1, 1000);
                b = from(-1000, 1000);
                c = random.nextInt(2);
                d = from(0, 1000);
            }
            default -> a = from(-1, 1);
        }
        a = or(a);
        b = or(b);
        c = or(c);
        d = or(d);
        String call = at + "effect(" + kind + ", " + a + ", " + b + ", " + c + ", " + d + ")";
        checks.due(call, stick.effect(kind, a, b, c, d), naive.effect(kind, a, b, c, d));
    }

    private void anySet(String at) {
        int e = anEffect();
        int what = or(random.nextInt(12));
        int v = switch (what) {
            case 0 -> random.nextInt(4) == 0 ? -9 : Math.max(1, time(60000));
            case 1, 2, 4 -> time(5000);
            case 3, 5, 8 -> from(0, 100);
            case 6, 7 -> random.nextInt(2) == 0 ? 100 : from(-100, 100);
            case 9 -> from(0, 9);
            case 10 -> random.nextInt(5) == 0 ? -9 : from(0, 3);
            case 11 -> random.nextInt(4) == 0 ? 0 : time(5000);
            default -> 0;
        };
        v = or(v);
        checks.due(at + "set(" + e + ", " + what + ", " + v + ")", stick.set(e, what, v), naive.set(e, what, v));
    }

    private void anyDeed(String at) {
        switch (random.nextInt(20)) {
            case 0, 1, 2 -> {
                int e = anEffect();
                checks.due(at + "play(" + e + ")", stick.play(e), naive.play(e));
            }
            case 3, 4 -> {
                int e = anEffect();
                checks.due(at + "load(" + e + ")", stick.load(e), naive.load(e));
            }
            case 5 -> {
                int e = anEffect();
                checks.due(at + "unload(" + e + ")", stick.unload(e), naive.unload(e));
            }
            case 6 -> {
                int e = anEffect();
                checks.due(at + "stop(" + e + ")", stick.stop(e), naive.stop(e));
            }
            case 7, 8, 9 -> {
                int b = or(random.nextInt(4));
                checks.due(at + "press(" + b + ")", stick.press(b), naive.press(b));
            }
            case 10 -> {
                int b = or(random.nextInt(4));
                checks.due(at + "free(" + b + ")", stick.free(b), naive.free(b));
            }
            case 11, 12, 13, 14 -> {
                int ms = or(Math.max(1, time(4000)));
                checks.due(at + "pass(" + ms + ")", stick.pass(ms), naive.pass(ms));
            }
            case 15, 16 -> {
                int x = or(from(-1000, 1000));
                int y = or(from(-1000, 1000));
                checks.due(at + "hand(" + x + ", " + y + ")", stick.hand(x, y), naive.hand(x, y));
            }
            case 17 -> checks.due(at + "hello()", stick.hello(), naive.hello());
            default -> rareDeed(at);
        }
    }

    private void rareDeed(String at) {
        switch (random.nextInt(5)) {
            case 0 -> checks.due(at + "drop()", stick.drop(), naive.drop());
            case 1 -> {
                int n = or(from(3, 6));
                checks.due(at + "slots(" + n + ")", stick.slots(n), naive.slots(n));
            }
            case 2 -> {
                int v = or(random.nextInt(3) == 0 ? 0 : time(10000) * 4 % 10001);
                checks.due(at + "watch(" + v + ")", stick.watch(v), naive.watch(v));
            }
            case 3 -> {
                int v = or(from(0, 100));
                checks.due(at + "master(" + v + ")", stick.master(v), naive.master(v));
            }
            default -> {
                int v = or(from(1, 1000));
                checks.due(at + "rate(" + v + ")", stick.rate(v), naive.rate(v));
            }
        }
    }

    private void anyQuestion(String at) {
        int axis = or(random.nextInt(2));
        int what = or(random.nextInt(2));
        switch (random.nextInt(16)) {
            case 0 -> checks.due(at + "ofAxis(" + axis + ", " + what + ")", stick.ofAxis(axis, what),
                naive.ofAxis(axis, what));
            case 1, 2, 3, 4 -> {
                int e = anEffect();
                int of = or(random.nextInt(24) - 1);
                checks.due(at + "ofEffect(" + e + ", " + of + ")", stick.ofEffect(e, of), naive.ofEffect(e, of));
            }
            case 5 -> {
                int k = or(random.nextInt(7));
                checks.due(at + "slot(" + k + ")", stick.slot(k), naive.slot(k));
            }
            case 6, 7 -> {
                int e = anEffect();
                checks.due(at + "part(" + e + ", " + axis + ")", stick.part(e, axis), naive.part(e, axis));
            }
            case 8 -> {
                int e = anEffect();
                checks.due(at + "envelope(" + e + ")", stick.envelope(e), naive.envelope(e));
            }
            case 9 -> checks.due(at + "force(" + axis + ", " + what + ")", stick.force(axis, what),
                naive.force(axis, what));
            case 10 -> {
                int k = or(from(0, 1000000));
                if (random.nextBoolean()) {
                    checks.due(at + "frame(" + k + ")", stick.frame(k), naive.frame(k));
                } else {
                    checks.due(at + "frames()", stick.frames(), naive.frames());
                }
            }
            case 11 -> {
                int n = or(Math.max(1, time(2000)));
                checks.due(at + "peak(" + axis + ", " + n + ", " + what + ")", stick.peak(axis, n, what),
                    naive.peak(axis, n, what));
            }
            case 12 -> {
                int n = or(Math.max(1, time(2000)));
                checks.due(at + "soLong(" + n + ")", stick.soLong(n), naive.soLong(n));
            }
            case 13, 14 -> {
                int n = or(Math.max(1, time(400)));
                checks.due(at + "quiet(" + n + ")", stick.quiet(n), naive.quiet(n));
            }
            default -> {
                int of = or(random.nextInt(11));
                checks.due(at + "many(" + of + ")", stick.many(of), naive.many(of));
            }
        }
    }
}
