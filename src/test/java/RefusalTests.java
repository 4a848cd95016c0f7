import java.util.ArrayList;
import java.util.List;
import java.util.Random;

/**
 * REFUSALS: "of a call's line the first that fits is answered, in the order told there: UNKNOWN, OUTSIDE, STATE, FULL;
 * they change nothing." Each refused call is made on one of two objects that are alike; both have to answer alike ever
 * after.
 */
public final class RefusalTests {
    private static final int UNKNOWN = -1, OUTSIDE = -2, STATE = -3, FULL = -4, NONE = -9;
    private static final int LEAST = Integer.MIN_VALUE, MOST = Integer.MAX_VALUE;

    private static final Checks CHECKS = new Checks("RefusalTests");

    public static void main(String[] args) {
        whileThereIsNothing();
        whileAllIsFull();
        whileTheHostIsLost();
        whileTimeIsAtItsEnd();
        whileTimeIsOneAheadOfItsEnd();
        refusedCallsLeftOut();
        questionsLeftOut();
        CHECKS.end();
    }

    private static Call call(String name, int... args) {
        return new Call(name, args);
    }

    // ---- states in which calls are refused

    private static List<Call> nothing() {
        return List.of();
    }

    /** 12 EFFECTS, 6 SLOTS, in each one that PLAYS, BUTTONS 0 and 1 held, a WATCH that runs, a HAND with SPEED. */
    private static List<Call> full() {
        List<Call> calls = new ArrayList<>();
        calls.add(call("effect", 0, 400, 0, 0, 0));
        calls.add(call("effect", 1, 300, 20, 10, 3));
        calls.add(call("effect", 2, 500, -100, 14, 2));
        calls.add(call("effect", 3, 100, 900, 0, 0));
        calls.add(call("effect", 4, 50, 100, 20, 900));
        calls.add(call("effect", 5, 80, 0, 100, 900));
        calls.add(call("effect", 6, 200, 50, 0, 700));
        for (int e = 7; e < 12; e++) {
            calls.add(call("effect", 0, 100 * e - 900, 0, 0, 0));
        }
        calls.add(call("slots", 6));
        for (int e = 0; e < 7; e++) {
            calls.add(call("set", e, 9, 5));
        }
        calls.add(call("set", 0, 10, 0));
        calls.add(call("set", 0, 11, 7));
        calls.add(call("set", 0, 0, 4));
        calls.add(call("set", 1, 10, 1));
        calls.add(call("set", 1, 11, 11));
        calls.add(call("set", 2, 2, 30));
        calls.add(call("set", 3, 0, 40));
        calls.add(call("set", 4, 7, 60));
        calls.add(call("master", 55));
        calls.add(call("rate", 77));
        calls.add(call("pass", 1200));
        for (int e = 0; e < 6; e++) {
            calls.add(call("play", e));
        }
        calls.add(call("hand", 300, -200));
        calls.add(call("pass", 2));
        calls.add(call("watch", 50));
        calls.add(call("press", 0));
        calls.add(call("pass", 3));
        calls.add(call("hand", 310, -240));
        calls.add(call("press", 1));
        calls.add(call("pass", 6));
        return calls;
    }

    private static List<Call> lost() {
        List<Call> calls = new ArrayList<>(full());
        calls.add(call("pass", 60));
        return calls;
    }

    private static List<Call> at(int now) {
        List<Call> calls = new ArrayList<>();
        calls.add(call("effect", 0, 700, 0, 0, 0));
        calls.add(call("play", 0));
        for (int t = 0; t < now; t += 100000) {
            calls.add(call("pass", Math.min(100000, now - t)));
        }
        return calls;
    }

    // ---- what is asked of both objects afterwards

    private static List<List<Call>> looks() {
        List<List<Call>> looks = new ArrayList<>();
        for (int first = 0; first < 12; first += 4) {
            looks.add(lookAtEffects(first));
        }
        looks.add(lookAtAll());
        looks.add(lookAtTime());
        return looks;
    }

    private static List<Call> lookAtEffects(int first) {
        List<Call> calls = new ArrayList<>();
        for (int e = first; e < first + 4; e++) {
            for (int what = 0; what <= 21; what++) {
                calls.add(call("ofEffect", e, what));
            }
            calls.add(call("part", e, 0));
            calls.add(call("part", e, 1));
            calls.add(call("envelope", e));
        }
        return calls;
    }

    private static List<Call> lookAtAll() {
        List<Call> calls = new ArrayList<>();
        for (int what = 0; what <= 10; what++) {
            calls.add(call("many", what));
        }
        for (int k = 0; k < 6; k++) {
            calls.add(call("slot", k));
        }
        for (int axis = 0; axis < 2; axis++) {
            for (int what = 0; what < 2; what++) {
                calls.add(call("ofAxis", axis, what));
                calls.add(call("force", axis, what));
                calls.add(call("peak", axis, 300, what));
            }
        }
        calls.add(call("frame", 1000));
        calls.add(call("frames"));
        calls.add(call("soLong", 300));
        calls.add(call("quiet", 300));
        return calls;
    }

    /** Since when BUTTONS are held, when the HAND was moved, and when the HOST said hello shows only as time goes by. */
    private static List<Call> lookAtTime() {
        List<Call> calls = new ArrayList<>();
        for (int i = 0; i < 45; i++) {
            calls.add(call("pass", 1));
            calls.add(call("ofEffect", 0, 8));
            calls.add(call("ofEffect", 1, 8));
            calls.add(call("many", 7));
        }
        calls.add(call("hand", 17, 71));
        calls.add(call("ofAxis", 0, 1));
        calls.add(call("ofAxis", 1, 1));
        for (int b = 0; b < 4; b++) {
            calls.add(call("free", b));
        }
        calls.add(call("hello"));
        calls.add(call("pass", 60));
        calls.add(call("many", 7));
        calls.add(call("effect", 0, 1, 0, 0, 0));
        calls.add(call("drop"));
        return calls;
    }

    private static void refused(List<Call> before, int answer, Call refused) {
        for (List<Call> look : looks()) {
            PushStick with = new PushStick();
            PushStick without = new PushStick();
            for (Call call : before) {
                call.on(with);
                call.on(without);
            }
            CHECKS.due(refused.toString(), refused.on(with), answer);
            for (Call call : look) {
                CHECKS.due(refused + " changed nothing, then " + call, call.on(with), call.on(without));
            }
        }
    }

    private static void all(List<Call> before, int answer, Call... calls) {
        for (Call call : calls) {
            refused(before, answer, call);
        }
    }

    // ---- the refusals of each call

    private static void whileThereIsNothing() {
        refused(nothing(), STATE, call("drop"));
        for (int e : new int[] {0, 1, 11, 12, -1, LEAST, MOST}) {
            all(nothing(), UNKNOWN, call("set", e, 0, 1), call("set", e, 12, 1), call("set", e, 1, -1),
                call("ofEffect", e, 0), call("ofEffect", e, 9), call("load", e), call("unload", e), call("play", e),
                call("stop", e), call("part", e, 0), call("part", e, 2), call("envelope", e));
        }
        for (int b = 0; b < 4; b++) {
            refused(nothing(), STATE, call("free", b));
        }
        all(nothing(), UNKNOWN, call("slot", 4), call("slot", 5), call("slot", 6), call("slot", -1));
    }

    private static void whileAllIsFull() {
        List<Call> full = full();
        refused(full, FULL, call("effect", 0, 0, 0, 0, 0));
        all(full, OUTSIDE, call("effect", 0, 1001, 0, 0, 0), call("effect", 7, 0, 0, 0, 0),
            call("effect", -1, 0, 0, 0, 0), call("effect", 1, 5, 0, 10, 10), call("effect", LEAST, 0, 0, 0, 0));
        for (int e : new int[] {12, 13, -1, LEAST, MOST}) {
            all(full, UNKNOWN, call("set", e, 0, 1), call("set", e, 12, 1), call("set", e, 0, 0),
                call("ofEffect", e, 0), call("ofEffect", e, 22), call("load", e), call("unload", e), call("play", e),
                call("stop", e), call("part", e, 0), call("part", e, 2), call("envelope", e));
        }
        refusedNumbers(full);
        all(full, OUTSIDE, call("hand", 1001, 0), call("hand", -1001, 0), call("hand", 0, 1001),
            call("hand", 0, -1001), call("hand", LEAST, MOST), call("hand", 0, LEAST));
        refusedAxes(full);
        all(full, OUTSIDE, call("slots", 0), call("slots", 7), call("slots", -1), call("slots", LEAST),
            call("slots", MOST));
        for (int n = 1; n <= 5; n++) {
            refused(full, STATE, call("slots", n));
        }
        all(full, UNKNOWN, call("slot", 6), call("slot", -1), call("slot", LEAST), call("slot", MOST));
        all(full, FULL, call("load", 6), call("load", 7), call("load", 11), call("play", 6), call("play", 11));
        all(full, STATE, call("unload", 6), call("unload", 11));
        refusedButtons(full);
        refusedTimes(full);
    }

    private static void refusedNumbers(List<Call> full) {
        int[] least = {1, 0, 0, 0, 0, 0, -100, -100, 0, 0, 0, 0};
        int[] most = {60000, 5000, 5000, 100, 5000, 100, 100, 100, 100, 9, 3, 5000};
        for (int what = 0; what < 12; what++) {
            all(full, OUTSIDE, call("set", 0, what, least[what] - 1), call("set", 0, what, most[what] + 1),
                call("set", 0, what, LEAST), call("set", 0, what, MOST));
        }
        all(full, OUTSIDE, call("set", 0, 12, 0), call("set", 0, -1, 0), call("set", 0, LEAST, 0),
            call("set", 0, MOST, 0), call("set", 11, 12, 0));
        all(full, OUTSIDE, call("ofEffect", 0, 9), call("ofEffect", 0, 22), call("ofEffect", 0, -1),
            call("ofEffect", 0, LEAST), call("ofEffect", 0, MOST));
    }

    private static void refusedAxes(List<Call> full) {
        for (int axis : new int[] {2, -1, LEAST, MOST}) {
            all(full, UNKNOWN, call("ofAxis", axis, 0), call("ofAxis", axis, 2), call("part", 0, axis),
                call("part", 12, axis), call("force", axis, 0), call("force", axis, 2), call("peak", axis, 1, 0),
                call("peak", axis, 0, 0), call("peak", axis, 1, 2), call("peak", axis, 2001, -1));
            all(full, OUTSIDE, call("ofAxis", 0, axis), call("ofAxis", 1, axis), call("force", 0, axis),
                call("force", 1, axis), call("peak", 0, 1, axis), call("peak", 1, 2000, axis));
        }
    }

    private static void refusedButtons(List<Call> full) {
        for (int b : new int[] {4, -1, LEAST, MOST, NONE}) {
            all(full, UNKNOWN, call("press", b), call("free", b));
        }
        all(full, STATE, call("press", 0), call("press", 1), call("free", 2), call("free", 3));
    }

    private static void refusedTimes(List<Call> full) {
        for (int v : new int[] {0, -1, LEAST, MOST}) {
            all(full, OUTSIDE, call("pass", v), call("rate", v), call("peak", 0, v, 0), call("soLong", v),
                call("quiet", v));
        }
        for (int v : new int[] {-1, LEAST, MOST}) {
            all(full, OUTSIDE, call("watch", v), call("master", v), call("frame", v), call("many", v));
        }
        all(full, OUTSIDE, call("pass", 100001), call("watch", 10001), call("master", 101), call("rate", 1001),
            call("frame", 1000001), call("peak", 0, 2001, 0), call("peak", 1, 2001, 1), call("soLong", 2001),
            call("quiet", 401), call("many", 11));
    }

    private static void whileTheHostIsLost() {
        List<Call> lost = lost();
        for (int e = 0; e < 12; e++) {
            refused(lost, STATE, call("play", e));
        }
        all(lost, UNKNOWN, call("play", 12), call("play", -1), call("press", 4), call("press", -1));
        for (int b = 0; b < 4; b++) {
            all(lost, STATE, call("press", b), call("free", b));
        }
        all(lost, OUTSIDE, call("watch", -1), call("watch", 10001));
    }

    private static void whileTimeIsAtItsEnd() {
        List<Call> end = at(10000000);
        all(end, STATE, call("pass", 1), call("pass", 2), call("pass", 100000));
        all(end, OUTSIDE, call("pass", 0), call("pass", -1), call("pass", 100001), call("pass", LEAST),
            call("pass", MOST));
    }

    private static void whileTimeIsOneAheadOfItsEnd() {
        List<Call> nearly = at(9999999);
        all(nearly, STATE, call("pass", 2), call("pass", 100000));
        all(nearly, OUTSIDE, call("pass", 0), call("pass", 100001));
        PushStick x = new PushStick();
        for (Call call : nearly) {
            call.on(x);
        }
        CHECKS.due("the last millisecond is not refused", x.pass(1), 1);
        CHECKS.due("it is 10000000", x.many(6), 10000000);
    }

    // ---- runs of any calls, once with and once without those that may change nothing

    private static void refusedCallsLeftOut() {
        for (long seed = 1; seed <= 600 && CHECKS.wrong() < 20; seed++) {
            leftOut(seed, false);
        }
    }

    private static void questionsLeftOut() {
        for (long seed = 601; seed <= 1200 && CHECKS.wrong() < 20; seed++) {
            leftOut(seed, true);
        }
    }

    private static void leftOut(long seed, boolean questions) {
        Random random = new Random(seed);
        PushStick with = new PushStick();
        PushStick without = new PushStick();
        int span = 3 + random.nextInt(40);
        for (int i = 0; i < 512; i++) {
            boolean asks = random.nextInt(3) == 0;
            Call call = asks ? anyQuestion(random, span) : anyDeed(random, span);
            int answer = call.on(with);
            boolean mayBeLeftOut = questions ? asks && random.nextBoolean() : isRefusal(answer);
            if (!mayBeLeftOut) {
                CHECKS.due("seed " + seed + ", call " + i + ", " + call + " without", call.on(without), answer);
            }
        }
    }

    private static boolean isRefusal(int answer) {
        return answer == UNKNOWN || answer == OUTSIDE || answer == STATE || answer == FULL;
    }

    private static Call anyDeed(Random random, int span) {
        int e = random.nextInt(13);
        int b = random.nextInt(5);
        int time = random.nextInt(span);
        return switch (random.nextInt(22)) {
            case 0, 1 -> call("effect", 0, random.nextInt(2200) - 1100, 0, 0, 0);
            case 2 -> call("effect", 1 + random.nextInt(2), random.nextInt(1100), 0, 2 + time, random.nextInt(span));
            case 3 -> call("effect", 5, random.nextInt(230) - 115, 0, 10, 900);
            case 4 -> call("set", e, 0, time);
            case 5 -> call("set", e, 1, time);
            case 6 -> call("set", e, 9, random.nextInt(12));
            case 7, 8 -> call("set", e, 10, b);
            case 9, 10 -> call("set", e, 11, time - 1);
            case 11 -> call("hand", random.nextInt(2400) - 1200, random.nextInt(2400) - 1200);
            case 12 -> call("slots", random.nextInt(8));
            case 13 -> call("load", e);
            case 14 -> random.nextInt(4) == 0 ? call("drop") : call("unload", e);
            case 15 -> call("play", e);
            case 16 -> call("stop", e);
            case 17 -> call("press", b);
            case 18 -> call("free", b);
            case 19 -> random.nextInt(3) == 0 ? call("hello") : call("watch", 5 * time - 5);
            default -> call("pass", time);
        };
    }

    private static Call anyQuestion(Random random, int span) {
        int e = random.nextInt(13);
        int axis = random.nextInt(3);
        int what = random.nextInt(3);
        int n = random.nextInt(2 * span);
        return switch (random.nextInt(10)) {
            case 0, 1, 2 -> call("ofEffect", e, random.nextInt(10));
            case 3 -> call("ofAxis", axis, what);
            case 4 -> call("part", e, axis);
            case 5 -> call("force", axis, what);
            case 6 -> call("peak", axis, n, what);
            case 7 -> call("soLong", n);
            case 8 -> call("quiet", n);
            default -> call("many", random.nextInt(12));
        };
    }
}
