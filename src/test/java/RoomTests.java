import java.lang.management.ManagementFactory;

/** What a run makes is counted: after its making an object must make nothing more, whatever is called. */
public final class RoomTests {
    public static void main(String[] args) {
        Checks checks = new Checks("RoomTests");
        // Twice, so that what the machine itself makes as it loads and warms up is not counted.
        made(checks);
        long bytes = made(checks);
        checks.holds("no call makes an object or an array: " + bytes + " bytes", bytes < 2000);
        checks.end();
    }

    private static long made(Checks checks) {
        com.sun.management.ThreadMXBean threads =
            (com.sun.management.ThreadMXBean) ManagementFactory.getThreadMXBean();
        PushStick x = new PushStick();
        long before = threads.getCurrentThreadAllocatedBytes();
        int sum = 0;
        for (int round = 0; round < 16; round++) {
            sum += everyCall(x, round);
        }
        long bytes = threads.getCurrentThreadAllocatedBytes() - before;
        checks.holds("something was answered", sum != 0);
        return bytes;
    }

    private static int everyCall(PushStick x, int round) {
        int sum = x.slots(6);
        sum += x.drop();
        for (int kind = 0; kind < 7; kind++) {
            boolean isWave = kind == 1 || kind == 2;
            sum += x.effect(kind, 90, 0, isWave ? 10 : 0, 0);
        }
        sum += x.set(round % 7, 10, 1) + x.set(round % 7, 11, 9);
        sum += x.load(round % 7) + x.press(1) + x.play(0) + x.stop(1) + x.unload(2);
        sum += x.hand(round, -round) + x.pass(7) + x.watch(100) + x.hello();
        sum += x.master(90) + x.rate(300) + x.frame(5) + x.frames() + x.slot(0);
        sum += x.part(0, 0) + x.envelope(0) + x.force(0, 1) + x.ofAxis(0, 1) + x.ofEffect(0, 8);
        sum += x.peak(0, 2000, 1) + x.soLong(2000) + x.quiet(400) + x.many(2) + x.free(1);
        return sum;
    }
}
