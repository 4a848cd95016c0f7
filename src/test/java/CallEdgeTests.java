import java.util.function.IntFunction;

/**
 * Call by call, in the order of the promises: each argument at its least, at its greatest, at the next beyond each, and
 * far out, where sums and products wrap around; and each answer at its own least and greatest.
 */
public final class CallEdgeTests {
    private static final int UNKNOWN = -1, OUTSIDE = -2, STATE = -3, FULL = -4, NONE = -9;
    private static final int LENGTH = 0, DELAY = 1, X = 6, Y = 7, RANK = 9, BUTTON = 10, REPEAT = 11;
    private static final int SLOT = 5, PLAYS = 6, START = 8;

    private static final Checks CHECKS = new Checks("CallEdgeTests");

    public static void main(String[] args) {
        newObject();
        effectAnswersItsNumber();
        setArguments();
        setAnswersWhatItWas();
        dropOfOneAndOfNone();
        dropTakesTheLastOnly();
        dropOfOneThatIsLoaded();
        handArguments();
        ofAxisArguments();
        ofEffectArguments();
        ofEffectOfEachKind();
        slotsArguments();
        slotsWithOneInTheEdge();
        slotArguments();
        loadArguments();
        unloadArguments();
        unloadOfWhatIsNotLoaded();
        playArguments();
        playRefusesInOrder();
        stopArguments();
        stopOfWhatDoesNotPlay();
        pressArguments();
        pressRefuses();
        freeArguments();
        freeAnswersHowLong();
        passArguments();
        passAnswersHowManyPlay();
        passToTheEndOfTime();
        helloAnswers();
        watchArguments();
        lostItStaysSoTillHello();
        masterArguments();
        partArguments();
        partAnswers();
        envelopeArguments();
        envelopeOfEachKind();
        forceArguments();
        forceAnswers();
        rateArguments();
        frameArguments();
        framesAnswers();
        peakArguments();
        soLongArguments();
        quietArguments();
        quietAnswersBits();
        manyArguments();
        manyAtTheirEdges();
        theLastCallOfManyIsAnswered();
        CHECKS.end();
    }

    private static void due(String what, long got, long want) {
        CHECKS.due(what, got, want);
    }

    private static PushStick withSteady(int... pushes) {
        PushStick x = new PushStick();
        for (int push : pushes) {
            x.effect(0, push, 0, 0, 0);
        }
        return x;
    }

    private static boolean isRefusal(int answer) {
        return answer == UNKNOWN || answer == OUTSIDE || answer == STATE || answer == FULL;
    }

    /** The numbers least .. most are taken, all others are refused by one answer. Each is tried on an object of its own. */
    private static void taken(String what, int least, int most, int refusal, IntFunction<Integer> answer) {
        for (int v : new int[] {least, Math.min(least + 1, most), Math.max(most - 1, least), most}) {
            CHECKS.holds(what + " " + v + " is taken", !isRefusal(answer.apply(v)));
        }
        refusedOnly(what, least, most, refusal, answer);
    }

    private static void refusedOnly(String what, int least, int most, int refusal, IntFunction<Integer> answer) {
        due(what + " " + (least - 1), answer.apply(least - 1), refusal);
        due(what + " " + (most + 1), answer.apply(most + 1), refusal);
        for (int i = 0; i < 32; i++) {
            int bit = 1 << i;
            for (int v : new int[] {bit, -bit, bit - 1, bit + 1, -bit - 1, bit + most, bit + least, -bit + most}) {
                if (v < least || v > most) {
                    due(what + " " + v, answer.apply(v), refusal);
                }
            }
        }
    }

    // ---- Promise 1: "No EFFECTS; the SLOTS are empty."

    private static void newObject() {
        PushStick x = new PushStick();
        due("1 EFFECTS", x.many(0), 0);
        due("1 LOADED", x.many(1), 0);
        due("1 EFFECT 0", x.ofEffect(0, 0), UNKNOWN);
        for (int k = 0; k < 4; k++) {
            due("1 SLOT " + k, x.slot(k), NONE);
        }
        PushStick other = withSteady(1);
        other.play(0);
        due("1 one object is nothing to another", x.many(0), 0);
        due("1 one object is nothing to another", x.slot(0), NONE);
    }

    // ---- Promise 2: "An EFFECT: its number. OUTSIDE; FULL."

    private static void effectAnswersItsNumber() {
        PushStick x = new PushStick();
        for (int e = 0; e < 12; e++) {
            due("2 number", anyOf(x, e % 7), e);
            due("2 KIND", x.ofEffect(e, 0), e % 7);
        }
        for (int kind = 0; kind < 7; kind++) {
            due("2 FULL, KIND " + kind, anyOf(x, kind), FULL);
        }
        due("2 OUTSIDE comes first", anyOf(x, 7), OUTSIDE);
        taken("2 kind", 0, 6, OUTSIDE, kind -> anyOf(new PushStick(), kind));
        refusedOnly("2 kind while it is FULL", 0, 6, OUTSIDE, kind -> anyOf(twelve(), kind));
    }

    private static int anyOf(PushStick x, int kind) {
        return x.effect(kind, 1, 0, kind == 1 || kind == 2 ? 2 : 0, 0);
    }

    // ---- Promise 3: "NUMBER what of an EFFECT becomes v: what it was (of X, Y with 10000 more). UNKNOWN; OUTSIDE."

    private static void setArguments() {
        taken("3 e", 0, 11, UNKNOWN, e -> twelve().set(e, 1, 1));
        refusedOnly("3 e ahead of what", 0, 11, UNKNOWN, e -> twelve().set(e, 12, 1));
        refusedOnly("3 e ahead of v", 0, 11, UNKNOWN, e -> twelve().set(e, 1, -1));
        taken("3 what", 0, 11, OUTSIDE, what -> withSteady(1).set(0, what, what == LENGTH ? 1 : 0));
        int[] least = {1, 0, 0, 0, 0, 0, -100, -100, 0, 0, 0, 0};
        int[] most = {60000, 5000, 5000, 100, 5000, 100, 100, 100, 100, 9, 3, 5000};
        for (int k = 0; k < 12; k++) {
            int what = k;
            boolean mayBeNone = what == LENGTH || what == BUTTON;
            taken("3 NUMBER " + what, least[what], most[what], OUTSIDE,
                v -> mayBeNone && v == NONE ? OUTSIDE : withSteady(1).set(0, what, v));
        }
    }

    private static PushStick twelve() {
        return withSteady(1, 2, 3, 4, 5, 6, 7, 8, 9, 10, 11, 12);
    }

    private static PushStick none() {
        return new PushStick();
    }

    private static void setAnswersWhatItWas() {
        PushStick x = withSteady(1);
        due("3 X was 100", x.set(0, X, -100), 10100);
        due("3 X was -100", x.set(0, X, 0), 9900);
        due("3 X was 0", x.set(0, X, 0), 10000);
        due("3 Y was 0", x.set(0, Y, -100), 10000);
        due("3 Y was -100", x.set(0, Y, 100), 9900);
        due("3 Y was 100", x.set(0, Y, 0), 10100);
        due("3 LENGTH was NONE", x.set(0, LENGTH, 60000), NONE);
        due("3 LENGTH was 60000", x.set(0, LENGTH, 1), 60000);
        due("3 LENGTH was 1", x.set(0, LENGTH, NONE), 1);
        due("3 BUTTON was NONE", x.set(0, BUTTON, 3), NONE);
        due("3 BUTTON was 3", x.set(0, BUTTON, 0), 3);
        due("3 BUTTON was 0", x.set(0, BUTTON, NONE), 0);
    }

    // ---- Promise 4: "The last EFFECT is no more (nor LOADED): how many are left. STATE: there is none."

    private static void dropOfOneAndOfNone() {
        PushStick x = new PushStick();
        due("4 none", x.drop(), STATE);
        x.effect(0, 1, 0, 0, 0);
        due("4 the only one", x.drop(), 0);
        due("4 none again", x.drop(), STATE);
        PushStick full = twelve();
        for (int left = 11; left >= 0; left--) {
            due("4 left", full.drop(), left);
            due("4 the next is there", full.ofEffect(left - 1, 0), left > 0 ? 0 : UNKNOWN);
            due("4 this is not", full.ofEffect(left, 0), UNKNOWN);
        }
        due("4 none is left", full.drop(), STATE);
    }

    private static void dropTakesTheLastOnly() {
        PushStick x = withSteady(10, 20);
        x.set(0, RANK, 4);
        x.play(1);
        x.play(0);
        x.drop();
        due("4 the other PLAYS on", x.ofEffect(0, PLAYS), 1);
        due("4 in its SLOT", x.ofEffect(0, SLOT), 1);
        due("4 with its RANK", x.ofEffect(0, 19), 4);
        due("4 RAW", x.force(0, 0), 100010);
    }

    private static void dropOfOneThatIsLoaded() {
        PushStick x = withSteady(10, 20);
        x.slots(1);
        x.play(1);
        due("4 FULL", x.load(0), FULL);
        x.drop();
        due("4 nothing is LOADED", x.many(1), 0);
        due("4 nothing PLAYS", x.many(2), 0);
        due("4 the SLOT is free", x.slot(0), NONE);
        due("4 for the other", x.load(0), 0);
        due("4 a new one with that number", x.effect(0, 5, 0, 0, 0), 1);
        due("4 is not LOADED", x.ofEffect(1, SLOT), NONE);
        due("4 was never BEGUN", x.ofEffect(1, START), NONE);
    }

    // ---- Promise 5: "The HAND comes to a PLACE on both AXES: 1. OUTSIDE."

    private static void handArguments() {
        taken("5 x", -1000, 1000, OUTSIDE, v -> none().hand(v, 0));
        taken("5 y", -1000, 1000, OUTSIDE, v -> none().hand(0, v));
        due("5 both at their least", none().hand(-1000, -1000), 1);
        due("5 both at their greatest", none().hand(1000, 1000), 1);
        due("5 both beyond", none().hand(1001, -1001), OUTSIDE);
    }

    // ---- Promise 6: "Of an AXIS: 0 PLACE, 1 SPEED (both with 10000000 more). UNKNOWN; OUTSIDE."

    private static void ofAxisArguments() {
        taken("6 axis", 0, 1, UNKNOWN, axis -> none().ofAxis(axis, 0));
        refusedOnly("6 axis ahead of what", 0, 1, UNKNOWN, axis -> none().ofAxis(axis, axis));
        taken("6 what", 0, 1, OUTSIDE, what -> none().ofAxis(1, what));
        PushStick x = new PushStick();
        x.hand(-1000, 1000);
        due("6 the least PLACE", x.ofAxis(0, 0), 9999000);
        due("6 the greatest PLACE", x.ofAxis(1, 0), 10001000);
        x.pass(1);
        x.hand(1000, -1000);
        due("6 the greatest SPEED", x.ofAxis(0, 1), 12000000);
        due("6 the least SPEED", x.ofAxis(1, 1), 8000000);
    }

    // ---- Promise 7: "UNKNOWN; OUTSIDE: what (0 .. 8, 10 .. 21)."

    private static void ofEffectArguments() {
        taken("7 e", 0, 11, UNKNOWN, e -> twelve().ofEffect(e, 0));
        refusedOnly("7 e ahead of what", 0, 11, UNKNOWN, e -> twelve().ofEffect(e, 9));
        taken("7 what", 0, 8, OUTSIDE, what -> what >= 10 && what <= 21 ? OUTSIDE : withSteady(1).ofEffect(0, what));
        taken("7 what", 10, 21, OUTSIDE, what -> what >= 0 && what <= 8 ? OUTSIDE : withSteady(1).ofEffect(0, what));
        due("7 what 9", withSteady(1).ofEffect(0, 9), OUTSIDE);
    }

    private static void ofEffectOfEachKind() {
        int[][] shapes = {
            {0, -1000, 0, 0, 0}, {1, 1000, -1000, 2000, 1999}, {2, 0, 1000, 2, 1}, {3, -1000, 1000, 0, 0},
            {4, -100, 1000, 1000, 1000}, {5, 100, 0, 9999, 1000}, {6, 1000, -1000, 1, 1000}
        };
        PushStick x = new PushStick();
        for (int e = 0; e < shapes.length; e++) {
            int[] s = shapes[e];
            due("7 effect", x.effect(s[0], s[1], s[2], s[3], s[4]), e);
        }
        for (int e = 0; e < shapes.length; e++) {
            due("7 KIND of " + e, x.ofEffect(e, 0), shapes[e][0]);
            for (int what = 1; what <= 4; what++) {
                due("7 number " + what + " of " + e, x.ofEffect(e, what), shapes[e][what] + 10000);
            }
        }
    }

    // ---- Promise 8: "How many SLOTS there are becomes n: how many there were. OUTSIDE; STATE: .."

    private static void slotsArguments() {
        taken("8 n", 1, 6, OUTSIDE, n -> none().slots(n));
        PushStick x = new PushStick();
        int was = 4;
        for (int n : new int[] {6, 1, 1, 6, 5, 2, 6}) {
            due("8 there were", x.slots(n), was);
            due("8 there are", x.many(4), n);
            was = n;
        }
    }

    // "STATE: a SLOT of n or more has an EFFECT."
    private static void slotsWithOneInTheEdge() {
        for (int k = 0; k < 6; k++) {
            PushStick x = withSteady(1, 2, 3, 4, 5, 6);
            x.slots(6);
            for (int e = 0; e <= k; e++) {
                x.load(e);
            }
            for (int e = 0; e < k; e++) {
                x.unload(e);
            }
            for (int n = 1; n <= k; n++) {
                due("8 SLOT " + k + " has one, n " + n, x.slots(n), STATE);
            }
            due("8 OUTSIDE comes first", x.slots(0), OUTSIDE);
            due("8 there are as many", x.many(4), 6);
            due("8 n is one more than that SLOT", x.slots(k + 1), 6);
            due("8 it is there yet", x.slot(k), k);
            due("8 the next is no more", x.slot(k + 1), UNKNOWN);
        }
    }

    // ---- Promise 9: "The EFFECT in a SLOT; NONE: it is free. UNKNOWN."

    private static void slotArguments() {
        for (int n = 1; n <= 6; n++) {
            int count = n;
            taken("9 k of " + n, 0, n - 1, UNKNOWN, k -> {
                PushStick x = new PushStick();
                x.slots(count);
                return x.slot(k);
            });
        }
        PushStick x = twelve();
        x.load(11);
        due("9 the greatest number", x.slot(0), 11);
        x.load(0);
        due("9 the least number", x.slot(1), 0);
        due("9 free", x.slot(2), NONE);
    }

    // ---- Promise 10: "An EFFECT is LOADED: its SLOT. UNKNOWN; FULL."

    private static void loadArguments() {
        taken("10 e", 0, 11, UNKNOWN, e -> twelve().load(e));
        refusedOnly("10 e while it is FULL", 0, 11, UNKNOWN, e -> allSlotsPlay().load(e));
        for (int e = 0; e < 4; e++) {
            due("10 it is LOADED already", allSlotsPlay().load(e), e);
        }
        for (int e = 4; e < 12; e++) {
            due("10 FULL", allSlotsPlay().load(e), FULL);
        }
    }

    /** EFFECTS 0 to 3 PLAY in SLOTS 0 to 3. */
    private static PushStick allSlotsPlay() {
        PushStick x = twelve();
        for (int e = 0; e < 4; e++) {
            x.play(e);
        }
        return x;
    }

    // ---- Promise 11: "An EFFECT is LOADED no more (and is STOPPED): its SLOT. UNKNOWN; STATE: it is not LOADED."

    private static void unloadArguments() {
        taken("11 e", 0, 3, UNKNOWN, e -> e > 3 && e < 12 ? UNKNOWN : allSlotsPlay().unload(e));
        for (int e = 0; e < 4; e++) {
            due("11 its SLOT", allSlotsPlay().unload(e), e);
        }
        for (int e = 4; e < 12; e++) {
            due("11 it is not LOADED", allSlotsPlay().unload(e), STATE);
        }
    }

    private static void unloadOfWhatIsNotLoaded() {
        PushStick x = allSlotsPlay();
        due("11 unload", x.unload(2), 2);
        due("11 STOPPED", x.ofEffect(2, START), NONE);
        due("11 it PLAYS no more", x.many(2), 3);
        due("11 the SLOT is free", x.slot(2), NONE);
        due("11 again", x.unload(2), STATE);
        due("11 LOADED", x.load(2), 2);
        due("11 not BEGUN by that", x.ofEffect(2, START), NONE);
        due("11 one that does not PLAY", x.unload(2), 2);
    }

    // ---- Promise 12: "An EFFECT is LOADED, if it is not, and BEGUN NOW: its SLOT. UNKNOWN; STATE: ..; FULL."

    private static void playArguments() {
        taken("12 e", 0, 11, UNKNOWN, e -> twelve().play(e));
        refusedOnly("12 e while it is FULL", 0, 11, UNKNOWN, e -> allSlotsPlay().play(e));
        for (int e = 0; e < 4; e++) {
            due("12 it PLAYS already", allSlotsPlay().play(e), e);
        }
        for (int e = 4; e < 12; e++) {
            due("12 FULL", allSlotsPlay().play(e), FULL);
        }
    }

    private static void playRefusesInOrder() {
        PushStick x = allSlotsPlay();
        x.watch(1);
        x.pass(1);
        due("12 UNKNOWN ahead of STATE", x.play(12), UNKNOWN);
        due("12 STATE, LOADED", x.play(0), STATE);
        due("12 STATE, not LOADED", x.play(4), STATE);
        x.hello();
        due("12 no more", x.play(4), 0);
        PushStick over = allSlotsPlay();
        for (int e = 0; e < 4; e++) {
            over.set(e, LENGTH, 1);
        }
        over.watch(1);
        over.pass(1);
        for (int e = 0; e < 4; e++) {
            over.set(e, LENGTH, NONE);
        }
        due("12 LOST, and all PLAY again by their LENGTH", over.many(2), 4);
        due("12 FULL", over.load(4), FULL);
        due("12 STATE ahead of FULL", over.play(4), STATE);
    }

    // ---- Promise 13: "An EFFECT is STOPPED: 1, if it PLAYED, else 0. UNKNOWN."

    private static void stopArguments() {
        taken("13 e", 0, 11, UNKNOWN, e -> allSlotsPlay().stop(e));
        for (int e = 0; e < 12; e++) {
            due("13 stop " + e, allSlotsPlay().stop(e), e < 4 ? 1 : 0);
        }
    }

    private static void stopOfWhatDoesNotPlay() {
        PushStick x = withSteady(1);
        due("13 not LOADED", x.stop(0), 0);
        x.load(0);
        due("13 never BEGUN", x.stop(0), 0);
        x.set(0, LENGTH, 3);
        x.play(0);
        x.pass(2);
        due("13 in its last millisecond", x.stop(0), 1);
        due("13 STOPPED already", x.stop(0), 0);
        x.play(0);
        x.pass(3);
        due("13 one behind it", x.stop(0), 0);
        due("13 STOPPED all the same", x.ofEffect(0, START), NONE);
        due("13 it is LOADED yet", x.ofEffect(0, SLOT), 0);
        x.play(0);
        due("13 in its first millisecond", x.stop(0), 1);
    }

    // ---- Promise 14: "A BUTTON is pressed: how many EFFECTS are BEGUN. UNKNOWN; STATE: .."

    private static void pressArguments() {
        taken("14 b", 0, 3, UNKNOWN, b -> none().press(b));
        refusedOnly("14 b while it is LOST", 0, 3, UNKNOWN, b -> lostAtOne().press(b));
        for (int count = 0; count <= 6; count++) {
            PushStick x = twelve();
            x.slots(6);
            for (int e = 0; e < 6; e++) {
                x.load(e);
                x.set(e, BUTTON, e < count ? 2 : 1);
            }
            due("14 so many are BEGUN", x.press(2), count);
        }
    }

    private static PushStick lostAtOne() {
        PushStick x = withSteady(1);
        x.watch(1);
        x.pass(1);
        return x;
    }

    // "STATE: it is held already, the HOST is LOST."
    private static void pressRefuses() {
        PushStick x = withSteady(1);
        x.set(0, BUTTON, 3);
        x.load(0);
        due("14 pressed", x.press(3), 1);
        x.pass(2);
        due("14 held already", x.press(3), STATE);
        due("14 nothing is BEGUN by that", x.ofEffect(0, START), 0);
        due("14 another is up", x.press(2), 0);
        x.free(3);
        due("14 in the millisecond it was let go", x.press(3), 1);
        due("14 BEGUN anew", x.ofEffect(0, START), 2);
        due("14 held since then", x.free(3), 0);
        for (int b = 0; b < 4; b++) {
            PushStick lost = lostAtOne();
            due("14 LOST", lost.press(b), STATE);
            lost.hello();
            due("14 found", lost.press(b), 0);
        }
    }

    // ---- Promise 15: "A BUTTON is let go: for how many milliseconds it was held. UNKNOWN; STATE: it is up."

    private static void freeArguments() {
        taken("15 b", 0, 3, UNKNOWN, b -> {
            PushStick x = new PushStick();
            for (int i = 0; i < 4; i++) {
                x.press(i);
            }
            return x.free(b);
        });
        refusedOnly("15 b while all are up", 0, 3, UNKNOWN, b -> none().free(b));
        for (int b = 0; b < 4; b++) {
            due("15 up", none().free(b), STATE);
        }
    }

    private static void freeAnswersHowLong() {
        PushStick x = new PushStick();
        x.press(0);
        due("15 for none", x.free(0), 0);
        due("15 up", x.free(0), STATE);
        x.press(1);
        for (int i = 0; i < 100; i++) {
            x.pass(100000);
        }
        due("15 for all of time", x.free(1), 10000000);
        x.press(1);
        due("15 at the end of time", x.free(1), 0);
    }

    // ---- Promise 16: "So many milliseconds go by (1 .. 100000): how many EFFECTS PLAY then. OUTSIDE; STATE: .."

    private static void passArguments() {
        taken("16 ms", 1, 100000, OUTSIDE, ms -> none().pass(ms));
        PushStick x = new PushStick();
        x.pass(1);
        due("16 the least", x.many(6), 1);
        x.pass(100000);
        due("16 the greatest", x.many(6), 100001);
    }

    private static void passAnswersHowManyPlay() {
        PushStick x = twelve();
        due("16 none", x.pass(1), 0);
        x.slots(6);
        for (int e = 0; e < 6; e++) {
            x.set(e, LENGTH, e + 1);
            x.play(e);
        }
        due("16 PLAY before", x.many(2), 6);
        for (int left = 5; left >= 0; left--) {
            due("16 then", x.pass(1), left);
        }
        PushStick delayed = withSteady(1);
        delayed.set(0, DELAY, 10);
        delayed.play(0);
        due("16 one in its DELAY PLAYS", delayed.pass(1), 1);
    }

    // "STATE: NOW would be above 10000000."
    private static void passToTheEndOfTime() {
        PushStick x = new PushStick();
        for (int i = 0; i < 99; i++) {
            x.pass(100000);
        }
        x.pass(1);
        due("16 one too many", x.pass(100000), STATE);
        due("16 NOW stays", x.many(6), 9900001);
        due("16 just as many as are left", x.pass(99999), 0);
        due("16 the end", x.many(6), 10000000);
        due("16 no more", x.pass(1), STATE);
        due("16 OUTSIDE comes first, too small", x.pass(0), OUTSIDE);
        due("16 OUTSIDE comes first, too great", x.pass(100001), OUTSIDE);
    }

    // ---- Promise 17: "The HOST says hello: 1, if it was LOST, else 0."

    private static void helloAnswers() {
        PushStick x = new PushStick();
        due("17 at first", x.hello(), 0);
        due("17 without WATCH", x.hello(), 0);
        x.watch(2);
        x.pass(1);
        due("17 in time", x.hello(), 0);
        x.pass(2);
        due("17 in the millisecond it is LOST", x.hello(), 1);
        due("17 and again", x.hello(), 0);
        x.pass(3);
        due("17 one later", x.hello(), 1);
        x.pass(100000);
        due("17 much later", x.hello(), 1);
        due("17 found", x.many(7), 0);
    }

    // ---- Promise 18: "WATCH becomes v: what it was. OUTSIDE. (LOST, it stays so till hello().)"

    private static void watchArguments() {
        taken("18 v", 0, 10000, OUTSIDE, v -> none().watch(v));
        PushStick x = new PushStick();
        due("18 it was 0", x.watch(10000), 0);
        due("18 it was 10000", x.watch(0), 10000);
        due("18 it was 0", x.watch(1), 0);
        due("18 it was 1", x.watch(1), 1);
    }

    private static void lostItStaysSoTillHello() {
        for (int v : new int[] {0, 1, 10, 10000}) {
            PushStick x = lostAtOne();
            due("18 set while LOST", x.watch(v), 1);
            due("18 LOST at once", x.many(7), 1);
            x.pass(100000);
            due("18 LOST later", x.many(7), 1);
            due("18 hello", x.hello(), 1);
            due("18 play", x.play(0), 0);
            if (v > 1) {
                due("18 till WATCH is over", x.pass(v - 1), 1);
            }
            due("18 LOST by the new WATCH", x.pass(1), v == 0 ? 1 : 0);
            due("18 LOST by the new WATCH", x.many(7), v == 0 ? 0 : 1);
        }
    }

    // ---- Promise 19: "MASTER becomes v: what it was. OUTSIDE."

    private static void masterArguments() {
        taken("19 v", 0, 100, OUTSIDE, v -> none().master(v));
        PushStick x = new PushStick();
        due("19 it was 100", x.master(0), 100);
        due("19 it was 0", x.master(100), 0);
        due("19 it was 100", x.master(100), 100);
    }

    // ---- Promise 20: "PART of an EFFECT on an AXIS NOW. UNKNOWN: EFFECT, AXIS."

    private static void partArguments() {
        taken("20 e", 0, 11, UNKNOWN, e -> twelve().part(e, 0));
        taken("20 axis", 0, 1, UNKNOWN, axis -> withSteady(1).part(0, axis));
        refusedOnly("20 both", 0, 1, UNKNOWN, v -> withSteady(1).part(v, v));
    }

    // "What may be below 0 is told with 10000 more."
    private static void partAnswers() {
        PushStick x = new PushStick();
        x.effect(1, 1000, 1000, 2, 0);
        x.effect(1, 1000, -1000, 2, 1);
        x.set(0, Y, -100);
        x.play(0);
        x.play(1);
        due("20 the greatest", x.part(0, 0), 12000);
        due("20 the least", x.part(1, 0), 8000);
        due("20 on y", x.part(0, 1), 8000);
        due("20 nothing", x.part(1, 1), 10000);
    }

    // ---- Promise 21: "ENVELOPE of an EFFECT NOW (0 .. 100); NONE: it is not ON, or is none of KINDS 0 to 3. UNKNOWN."

    private static void envelopeArguments() {
        taken("21 e", 0, 3, UNKNOWN, e -> e > 3 && e < 12 ? UNKNOWN : allSlotsPlay().envelope(e));
        for (int e = 4; e < 12; e++) {
            due("21 not ON", allSlotsPlay().envelope(e), NONE);
        }
    }

    private static void envelopeOfEachKind() {
        for (int kind = 0; kind < 7; kind++) {
            PushStick x = new PushStick();
            anyOf(x, kind);
            due("21 not LOADED, KIND " + kind, x.envelope(0), NONE);
            x.set(0, DELAY, 1);
            x.set(0, LENGTH, 3);
            x.set(0, 2, 2);
            x.play(0);
            int[] levels = {NONE, 0, 50, 100, NONE};
            for (int i = 0; i < levels.length; i++) {
                due("21 KIND " + kind + " at " + i, x.envelope(0), kind < 4 ? levels[i] : NONE);
                x.pass(1);
            }
        }
    }

    // ---- Promise 22: "RAW (what 0; .. with 100000 more), FORCE (1; with 10000 more) on an AXIS NOW. UNKNOWN; OUTSIDE."

    private static void forceArguments() {
        taken("22 axis", 0, 1, UNKNOWN, axis -> none().force(axis, 0));
        refusedOnly("22 axis ahead of what", 0, 1, UNKNOWN, axis -> none().force(axis, axis));
        taken("22 what", 0, 1, OUTSIDE, what -> none().force(0, what));
    }

    // "it may be above 10000, below -10000"
    private static void forceAnswers() {
        PushStick x = new PushStick();
        x.slots(6);
        for (int e = 0; e < 6; e++) {
            x.effect(1, 1000, 1000, 2000, 0);
            x.set(e, Y, -100);
            x.play(e);
            int raw = 2000 * (e + 1);
            due("22 RAW of " + (e + 1), x.force(0, 0), 100000 + raw);
            due("22 RAW of " + (e + 1) + " on y", x.force(1, 0), 100000 - raw);
            due("22 FORCE", x.force(0, 1), 11000);
            due("22 FORCE on y", x.force(1, 1), 9000);
        }
    }

    // ---- Promise 23: "RATE becomes v: what it was. OUTSIDE."

    private static void rateArguments() {
        taken("23 v", 1, 1000, OUTSIDE, v -> none().rate(v));
        PushStick x = new PushStick();
        due("23 it was 250", x.rate(1000), 250);
        due("23 it was 1000", x.rate(1), 1000);
        due("23 it was 1", x.rate(1), 1);
    }

    // ---- Promise 24: "The millisecond of FRAME k (0 .. 1000000). OUTSIDE."

    private static void frameArguments() {
        taken("24 k", 0, 1000000, OUTSIDE, k -> none().frame(k));
        for (int rate = 1; rate <= 1000; rate++) {
            PushStick x = new PushStick();
            x.rate(rate);
            due("24 the last by " + rate, x.frame(1000000), 1000000000L / rate);
            due("24 the last but one by " + rate, x.frame(999999), 999999000L / rate);
            due("24 a second by " + rate, x.frame(rate), 1000);
        }
    }

    // ---- Promise 25: "How many FRAMES are NOW or ahead of it."

    private static void framesAnswers() {
        for (int rate = 1; rate <= 1000; rate++) {
            PushStick x = new PushStick();
            x.rate(rate);
            due("25 at 0 by " + rate, x.frames(), 1);
            x.pass(999);
            due("25 at 999 by " + rate, x.frames(), rate);
            x.pass(1);
            due("25 at 1000 by " + rate, x.frames(), rate + 1);
            for (int k = 1; k <= rate; k += 97) {
                PushStick z = new PushStick();
                z.rate(rate);
                int at = z.frame(k);
                if (at > 1) {
                    z.pass(at - 1);
                    due("25 one ahead of FRAME " + k + " by " + rate, z.frames(), k);
                    z.pass(1);
                    due("25 at FRAME " + k + " by " + rate, z.frames(), k + 1);
                }
            }
        }
    }

    // ---- Promise 26: "PEAK on an AXIS in n milliseconds (1 .. 2000): .. (what 0), .. (1). UNKNOWN; OUTSIDE."

    private static void peakArguments() {
        taken("26 axis", 0, 1, UNKNOWN, axis -> none().peak(axis, 1, 0));
        refusedOnly("26 axis ahead of n", 0, 1, UNKNOWN, axis -> none().peak(axis, 0, 0));
        refusedOnly("26 axis ahead of what", 0, 1, UNKNOWN, axis -> none().peak(axis, 1, 2));
        taken("26 n", 1, 2000, OUTSIDE, n -> none().peak(0, n, 0));
        taken("26 n", 1, 2000, OUTSIDE, n -> none().peak(1, n, 1));
        taken("26 what", 0, 1, OUTSIDE, what -> none().peak(0, 2000, what));
    }

    // ---- Promise 27: "SO LONG in n milliseconds (1 .. 2000). OUTSIDE."

    private static void soLongArguments() {
        taken("27 n", 1, 2000, OUTSIDE, n -> none().soLong(n));
        PushStick x = withSteady(1000, 1000);
        x.play(0);
        x.play(1);
        for (int n : new int[] {1, 2, 1999, 2000}) {
            due("27 all of " + n, x.soLong(n), n);
        }
    }

    // ---- Promise 28: "QUIET in n milliseconds (1 .. 400), as a set (bits 0 .. 11); NONE. OUTSIDE."

    private static void quietArguments() {
        taken("28 n", 1, 400, OUTSIDE, n -> none().quiet(n));
    }

    private static void quietAnswersBits() {
        for (int e = 0; e < 12; e++) {
            PushStick x = new PushStick();
            for (int i = 0; i < 12; i++) {
                x.effect(1, 1000, 1, 2000, 0);
            }
            x.play(e);
            due("28 bit " + e, x.quiet(1), 1 << e);
            due("28 bit " + e + ", for 400", x.quiet(400), 1 << e);
        }
        PushStick x = twelve();
        due("28 nothing PLAYS", x.quiet(400), 0);
    }

    // ---- Promise 29: "How many: 0 EFFECTS, .. 10 RATE. OUTSIDE."

    private static void manyArguments() {
        taken("29 what", 0, 10, OUTSIDE, what -> none().many(what));
    }

    private static void manyAtTheirEdges() {
        PushStick x = new PushStick();
        int[] atFirst = {0, 0, 0, 0, 4, 0, 0, 0, 0, 100, 250};
        for (int what = 0; what <= 10; what++) {
            due("29 at first, " + what, x.many(what), atFirst[what]);
        }
        x.slots(6);
        for (int e = 0; e < 12; e++) {
            x.effect(0, 1, 0, 0, 0);
            due("29 EFFECTS", x.many(0), e + 1);
        }
        for (int e = 0; e < 6; e++) {
            x.load(e);
            due("29 LOADED", x.many(1), e + 1);
            due("29 none PLAYS yet", x.many(2), e);
            x.set(e, DELAY, 1);
            x.play(e);
            due("29 PLAY", x.many(2), e + 1);
            due("29 none is ON yet", x.many(3), e);
            x.pass(1);
            due("29 ON", x.many(3), e + 1);
        }
        for (int b = 0; b < 4; b++) {
            x.press(b);
            due("29 held", x.many(5), b + 1);
        }
        due("29 SLOTS", x.many(4), 6);
        due("29 NOW", x.many(6), 6);
        x.watch(10000);
        x.master(0);
        x.rate(1);
        due("29 WATCH", x.many(8), 10000);
        due("29 MASTER", x.many(9), 0);
        due("29 RATE", x.many(10), 1);
        x.pass(10000);
        int[] lost = {12, 6, 0, 0, 6, 0, 10006, 1, 10000, 0, 1};
        for (int what = 0; what <= 10; what++) {
            due("29 LOST, " + what, x.many(what), lost[what]);
        }
    }

    // "An object is used for at most 512 calls after it has been made"
    private static void theLastCallOfManyIsAnswered() {
        PushStick x = withSteady(7);
        x.set(0, BUTTON, 0);
        x.set(0, REPEAT, 3);
        x.load(0);
        x.press(0);
        for (int call = 6; call <= 510; call++) {
            x.pass(1);
        }
        due("the 511th call", x.many(6), 505);
        due("the 512th call", x.ofEffect(0, START), 504);
    }
}
