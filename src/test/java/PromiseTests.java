/** For each promise of the document: ordinary calls, the edges it names, and wrong arguments. Worked out by hand. */
public final class PromiseTests {
    private static final int UNKNOWN = -1, OUTSIDE = -2, STATE = -3, FULL = -4, NONE = -9;
    private static final int LENGTH = 0, DELAY = 1, ATTACK = 2, ATTACK_LEVEL = 3, FADE = 4, FADE_LEVEL = 5;
    private static final int X = 6, Y = 7, GAIN = 8, RANK = 9, BUTTON = 10, REPEAT = 11;
    private static final int PLAYS = 6, ON = 7, START = 8;
    private static final int[] WILD = {Integer.MIN_VALUE, -1, Integer.MAX_VALUE};

    private static final Checks CHECKS = new Checks("PromiseTests");

    public static void main(String[] args) {
        promise1NewObject();
        promise2Effect();
        promise3Set();
        promise4Drop();
        promise5Hand();
        promise6OfAxis();
        promise7OfEffect();
        promise8Slots();
        promise9Slot();
        promise10Load();
        promise11Unload();
        promise12Play();
        promise13Stop();
        promise14Press();
        promise14Repeats();
        promise15Free();
        promise16Pass();
        promise17Hello();
        promise18Watch();
        promise19Master();
        promise20PartOfWaves();
        promise20PartByHand();
        promise21Envelope();
        promise22Force();
        promise23Rate();
        promise24Frame();
        promise25Frames();
        promise26Peak();
        promise27SoLong();
        promise28Quiet();
        promise29Many();
        CHECKS.end();
    }

    private static void due(String call, long got, long want) {
        CHECKS.due(call, got, want);
    }

    private static PushStick withSteady(int... pushes) {
        PushStick x = new PushStick();
        for (int push : pushes) {
            x.effect(0, push, 0, 0, 0);
        }
        return x;
    }

    private static void promise1NewObject() {
        PushStick x = new PushStick();
        int[] atFirst = {0, 0, 0, 0, 4, 0, 0, 0, 0, 100, 250};
        for (int what = 0; what <= 10; what++) {
            due("1 many(" + what + ")", x.many(what), atFirst[what]);
        }
        for (int k = 0; k < 4; k++) {
            due("1 slot(" + k + ")", x.slot(k), NONE);
        }
        for (int axis = 0; axis < 2; axis++) {
            due("1 PLACE", x.ofAxis(axis, 0), 10000000);
            due("1 SPEED", x.ofAxis(axis, 1), 10000000);
            due("1 RAW", x.force(axis, 0), 100000);
        }
        due("1 UNKNOWN", PushStick.UNKNOWN, -1);
        due("1 OUTSIDE", PushStick.OUTSIDE, -2);
        due("1 STATE", PushStick.STATE, -3);
        due("1 FULL", PushStick.FULL, -4);
        due("1 NONE", PushStick.NONE, -9);
    }

    private static void promise2Effect() {
        int[][] least = {
            {0, -1000, 0, 0, 0}, {1, 0, -1000, 2, 0}, {2, 0, -1000, 2, 0}, {3, -1000, -1000, 0, 0},
            {4, -100, -1000, 0, 0}, {5, -100, 0, 0, 0}, {6, 1, -1000, 0, 0}
        };
        int[][] most = {
            {0, 1000, 0, 0, 0}, {1, 1000, 1000, 2000, 1999}, {2, 1000, 1000, 2000, 1999}, {3, 1000, 1000, 0, 0},
            {4, 100, 1000, 1000, 1000}, {5, 100, 0, 9999, 1000}, {6, 1000, 1000, 1, 1000}
        };
        for (int kind = 0; kind < 7; kind++) {
            PushStick x = new PushStick();
            due("2 least of kind " + kind, make(x, least[kind]), 0);
            due("2 most of kind " + kind, make(x, most[kind]), 1);
            for (int i = 1; i < 5; i++) {
                int[] below = least[kind].clone();
                below[i]--;
                due("2 below, kind " + kind + ", number " + i, make(x, below), OUTSIDE);
                int[] above = most[kind].clone();
                above[i]++;
                due("2 above, kind " + kind + ", number " + i, make(x, above), OUTSIDE);
            }
            due("2 nothing more came of it", x.many(0), 2);
        }
        PushStick x = new PushStick();
        due("2 d is c", x.effect(1, 5, 0, 10, 10), OUTSIDE);
        due("2 d is c", x.effect(2, 5, 0, 10, 10), OUTSIDE);
        due("2 kind -1", x.effect(-1, 0, 0, 0, 0), OUTSIDE);
        due("2 kind 7", x.effect(7, 1, 0, 0, 0), OUTSIDE);
        due("2 wild kind", x.effect(Integer.MAX_VALUE, 1, 0, 0, 0), OUTSIDE);
        for (int e = 0; e < 12; e++) {
            due("2 effect", x.effect(0, e, 0, 0, 0), e);
        }
        due("2 thirteenth", x.effect(0, 0, 0, 0, 0), FULL);
        due("2 thirteenth and outside", x.effect(0, 1001, 0, 0, 0), OUTSIDE);
        due("2 many", x.many(0), 12);
    }

    private static int make(PushStick x, int[] shape) {
        return x.effect(shape[0], shape[1], shape[2], shape[3], shape[4]);
    }

    private static void promise3Set() {
        int[] least = {1, 0, 0, 0, 0, 0, -100, -100, 0, 0, 0, 0};
        int[] most = {60000, 5000, 5000, 100, 5000, 100, 100, 100, 100, 9, 3, 5000};
        int[] atFirst = {NONE, 0, 0, 0, 0, 0, 100, 0, 100, 0, NONE, 0};
        PushStick x = withSteady(1, 2);
        for (int what = 0; what < 12; what++) {
            int more = what == X || what == Y ? 10000 : 0;
            due("3 below " + what, x.set(1, what, least[what] - 1), OUTSIDE);
            due("3 above " + what, x.set(1, what, most[what] + 1), OUTSIDE);
            due("3 first " + what, x.set(1, what, least[what]), atFirst[what] + more);
            due("3 second " + what, x.set(1, what, most[what]), least[what] + more);
            due("3 is " + what, x.ofEffect(1, 10 + what), most[what] + more);
            due("3 the other is as it was " + what, x.ofEffect(0, 10 + what), atFirst[what] + more);
            boolean mayBeNone = what == LENGTH || what == BUTTON;
            int none = mayBeNone ? most[what] : what == X || what == Y ? most[what] + more : OUTSIDE;
            due("3 NONE " + what, x.set(1, what, NONE), none);
        }
        due("3 what -1", x.set(0, -1, 0), OUTSIDE);
        due("3 what 12", x.set(0, 12, 0), OUTSIDE);
        due("3 unknown", x.set(2, 0, 1), UNKNOWN);
        due("3 unknown ahead of outside", x.set(-1, 12, 0), UNKNOWN);
        for (int wild : WILD) {
            due("3 wild effect", x.set(wild, 0, 1), UNKNOWN);
            due("3 wild what", x.set(0, wild, 1), OUTSIDE);
            due("3 wild v", x.set(0, DELAY, wild), OUTSIDE);
        }
    }

    private static void promise4Drop() {
        PushStick x = withSteady(100, 200);
        x.set(1, BUTTON, 0);
        x.set(1, REPEAT, 5);
        x.set(1, LENGTH, 3);
        x.load(1);
        x.press(0);
        due("4 drop", x.drop(), 1);
        due("4 not LOADED", x.slot(0), NONE);
        due("4 it pushes no more", x.force(0, 0), 100000);
        due("4 unknown", x.stop(1), UNKNOWN);
        due("4 a new one", x.effect(3, 7, 8, 0, 0), 1);
        due("4 new kind", x.ofEffect(1, 0), 3);
        due("4 new LENGTH", x.ofEffect(1, 10), NONE);
        due("4 new BUTTON", x.ofEffect(1, 20), NONE);
        due("4 new START", x.ofEffect(1, START), NONE);
        due("4 new SLOT", x.ofEffect(1, 5), NONE);
        x.load(1);
        x.pass(5);
        due("4 the held BUTTON does not begin the new one", x.ofEffect(1, START), NONE);
        due("4 drop", x.drop(), 1);
        due("4 drop", x.drop(), 0);
        due("4 none is left", x.drop(), STATE);
    }

    private static void promise5Hand() {
        PushStick x = new PushStick();
        due("5 hand", x.hand(1000, -1000), 1);
        due("5 no time, no SPEED", x.ofAxis(0, 1), 10000000);
        x.pass(3);
        due("5 outside x", x.hand(1001, 0), OUTSIDE);
        due("5 outside x", x.hand(-1001, 0), OUTSIDE);
        due("5 outside y", x.hand(0, 1001), OUTSIDE);
        due("5 outside y", x.hand(0, -1001), OUTSIDE);
        due("5 wild", x.hand(Integer.MIN_VALUE, Integer.MAX_VALUE), OUTSIDE);
        due("5 not moved", x.ofAxis(0, 0), 10001000);
        x.hand(990, -990);
        due("5 SPEED is cut", x.ofAxis(0, 1), 10000000 - 3333);
        due("5 SPEED is cut", x.ofAxis(1, 1), 10000000 + 3333);
        x.hand(-1000, 0);
        due("5 moved again at once: SPEED stays", x.ofAxis(0, 1), 10000000 - 3333);
        due("5 but not PLACE", x.ofAxis(0, 0), 10000000 - 1000);
        x.pass(1);
        x.hand(1000, 0);
        due("5 the greatest SPEED", x.ofAxis(0, 1), 12000000);
        due("5 from where it was, since it was moved", x.ofAxis(1, 1), 10000000);
        x.pass(10);
        due("5 SPEED stays till it is moved", x.ofAxis(0, 1), 12000000);
        x.hand(1000, 0);
        due("5 moved to where it is", x.ofAxis(0, 1), 10000000);
    }

    private static void promise6OfAxis() {
        PushStick x = new PushStick();
        x.pass(100);
        x.hand(-50, 70);
        due("6 x PLACE", x.ofAxis(0, 0), 9999950);
        due("6 y PLACE", x.ofAxis(1, 0), 10000070);
        due("6 x SPEED since 0", x.ofAxis(0, 1), 9999500);
        due("6 y SPEED since 0", x.ofAxis(1, 1), 10000700);
        due("6 axis 2", x.ofAxis(2, 0), UNKNOWN);
        due("6 axis ahead of what", x.ofAxis(-1, 2), UNKNOWN);
        due("6 what -1", x.ofAxis(0, -1), OUTSIDE);
        due("6 what 2", x.ofAxis(1, 2), OUTSIDE);
    }

    private static void promise7OfEffect() {
        PushStick x = new PushStick();
        x.effect(2, 300, -40, 90, 7);
        due("7 KIND", x.ofEffect(0, 0), 2);
        due("7 a", x.ofEffect(0, 1), 10300);
        due("7 b", x.ofEffect(0, 2), 9960);
        due("7 c", x.ofEffect(0, 3), 10090);
        due("7 d", x.ofEffect(0, 4), 10007);
        due("7 SLOT", x.ofEffect(0, 5), NONE);
        due("7 PLAYS", x.ofEffect(0, PLAYS), 0);
        due("7 ON", x.ofEffect(0, ON), 0);
        due("7 START", x.ofEffect(0, START), NONE);
        x.set(0, DELAY, 4);
        x.set(0, LENGTH, 3);
        x.pass(10);
        x.play(0);
        due("7 SLOT", x.ofEffect(0, 5), 0);
        int[] on = {0, 0, 0, 0, 1, 1, 1, 0, 0};
        for (int i = 0; i < on.length; i++) {
            due("7 ON " + i, x.ofEffect(0, ON), on[i]);
            due("7 PLAYS " + i, x.ofEffect(0, PLAYS), i < 7 ? 1 : 0);
            due("7 START " + i, x.ofEffect(0, START), 10);
            x.pass(1);
        }
        x.set(0, LENGTH, 60000);
        due("7 with another LENGTH it is not over", x.ofEffect(0, PLAYS), 1);
        due("7 what 9", x.ofEffect(0, 9), OUTSIDE);
        due("7 what 22", x.ofEffect(0, 22), OUTSIDE);
        due("7 DELAY", x.ofEffect(0, 11), 4);
        due("7 X", x.ofEffect(0, 16), 10100);
        due("7 Y", x.ofEffect(0, 17), 10000);
        for (int wild : WILD) {
            due("7 wild what", x.ofEffect(0, wild), OUTSIDE);
            due("7 wild effect", x.ofEffect(wild, wild), UNKNOWN);
        }
        due("7 effect 1", x.ofEffect(1, 9), UNKNOWN);
    }

    private static void promise8Slots() {
        PushStick x = withSteady(1, 2, 3);
        due("8 none", x.slots(0), OUTSIDE);
        due("8 seven", x.slots(7), OUTSIDE);
        due("8 six", x.slots(6), 4);
        due("8 two", x.slots(2), 6);
        x.load(0);
        x.load(1);
        due("8 SLOT 1 has one", x.slots(1), STATE);
        due("8 still two", x.many(4), 2);
        due("8 two again", x.slots(2), 2);
        x.unload(0);
        due("8 SLOT 1 has one all the same", x.slots(1), STATE);
        x.unload(1);
        due("8 one", x.slots(1), 2);
    }

    private static void promise9Slot() {
        PushStick x = withSteady(1, 2);
        x.load(1);
        due("9 SLOT 0", x.slot(0), 1);
        due("9 SLOT 3", x.slot(3), NONE);
        due("9 SLOT 4", x.slot(4), UNKNOWN);
        x.slots(5);
        due("9 SLOT 4", x.slot(4), NONE);
        x.slots(1);
        due("9 SLOT 1", x.slot(1), UNKNOWN);
        for (int wild : WILD) {
            due("9 wild", x.slot(wild), UNKNOWN);
        }
    }

    private static void promise10Load() {
        PushStick x = withSteady(1, 2, 3, 4, 5, 6);
        x.slots(3);
        due("10 unknown", x.load(6), UNKNOWN);
        due("10 unknown", x.load(-1), UNKNOWN);
        int[] ranks = {5, 3, 3, 3, 4, 0};
        for (int e = 0; e < 6; e++) {
            x.set(e, RANK, ranks[e]);
        }
        due("10 least free", x.load(2), 0);
        due("10 least free", x.load(0), 1);
        due("10 least free", x.load(1), 2);
        due("10 it stays", x.load(0), 1);
        due("10 it is not begun", x.ofEffect(0, START), NONE);
        x.unload(0);
        due("10 the SLOT between", x.load(0), 1);
        due("10 of the idle the least RANK, the least number, whatever RANK comes", x.load(5), 2);
        due("10 effect 1 went", x.ofEffect(1, 5), NONE);
        x.play(5);
        x.play(0);
        due("10 the idle one goes, though one that PLAYS has a lesser RANK", x.load(4), 0);
        x.play(4);
        due("10 all PLAY: the least RANK goes", x.load(3), 2);
        due("10 effect 5 is STOPPED", x.ofEffect(5, START), NONE);
        x.play(3);
        due("10 all PLAY, none of a lesser RANK (0)", x.load(5), FULL);
        due("10 all PLAY, none of a lesser RANK (3)", x.load(1), FULL);
        due("10 nothing changed", x.slot(2), 3);
        x.set(0, RANK, 3);
        x.set(1, RANK, 4);
        due("10 of several of a lesser RANK the least number", x.load(1), 1);
        due("10 it is effect 0", x.ofEffect(0, 5), NONE);
        x.set(1, LENGTH, 5);
        x.play(1);
        x.pass(5);
        due("10 one that is over does not PLAY", x.load(5), 1);
    }

    private static void promise11Unload() {
        PushStick x = withSteady(1, 2);
        due("11 unknown", x.unload(2), UNKNOWN);
        due("11 unknown", x.unload(-1), UNKNOWN);
        due("11 not LOADED", x.unload(0), STATE);
        x.load(0);
        x.play(1);
        due("11 unload", x.unload(1), 1);
        due("11 SLOT", x.ofEffect(1, 5), NONE);
        due("11 START", x.ofEffect(1, START), NONE);
        due("11 PLAYS", x.ofEffect(1, PLAYS), 0);
        due("11 not LOADED", x.unload(1), STATE);
        due("11 the other stays", x.unload(0), 0);
    }

    private static void promise12Play() {
        PushStick x = withSteady(1, 2);
        x.slots(1);
        due("12 unknown", x.play(2), UNKNOWN);
        due("12 unknown", x.play(Integer.MIN_VALUE), UNKNOWN);
        x.pass(6);
        due("12 play", x.play(1), 0);
        due("12 START", x.ofEffect(1, START), 6);
        x.pass(2);
        due("12 anew", x.play(1), 0);
        due("12 that START alone", x.ofEffect(1, START), 8);
        due("12 full", x.play(0), FULL);
        due("12 not begun", x.ofEffect(0, START), NONE);
        x.watch(1);
        x.pass(1);
        due("12 LOST", x.play(0), STATE);
        due("12 LOST ahead of full: nothing LOADED", x.ofEffect(0, 5), NONE);
        due("12 LOST, unknown", x.play(2), UNKNOWN);
        x.hello();
        due("12 found again", x.play(0), 0);
        due("12 the idle one went", x.ofEffect(1, 5), NONE);
    }

    private static void promise13Stop() {
        PushStick x = withSteady(500, 2);
        due("13 unknown", x.stop(2), UNKNOWN);
        due("13 unknown", x.stop(-1), UNKNOWN);
        due("13 not begun", x.stop(0), 0);
        x.play(0);
        due("13 it played", x.stop(0), 1);
        due("13 START", x.ofEffect(0, START), NONE);
        due("13 RAW", x.force(0, 0), 100000);
        due("13 it is LOADED yet", x.ofEffect(0, 5), 0);
        due("13 again", x.stop(0), 0);
        x.set(0, DELAY, 9);
        x.play(0);
        due("13 in its DELAY it PLAYS", x.stop(0), 1);
        x.set(0, DELAY, 0);
        x.set(0, LENGTH, 2);
        x.play(0);
        x.pass(2);
        due("13 it is over", x.stop(0), 0);
        due("13 STOPPED all the same", x.ofEffect(0, START), NONE);
    }

    private static void promise14Press() {
        PushStick x = withSteady(1, 2, 3, 4);
        x.set(0, BUTTON, 2);
        x.set(1, BUTTON, 2);
        x.set(2, BUTTON, 3);
        x.load(0);
        x.load(2);
        x.load(3);
        x.pass(7);
        due("14 button 4", x.press(4), UNKNOWN);
        due("14 button -1", x.press(-1), UNKNOWN);
        due("14 none has it", x.press(0), 0);
        due("14 one is LOADED and has it", x.press(2), 1);
        due("14 START", x.ofEffect(0, START), 7);
        due("14 not LOADED", x.ofEffect(1, START), NONE);
        due("14 another BUTTON", x.ofEffect(2, START), NONE);
        due("14 no BUTTON", x.ofEffect(3, START), NONE);
        due("14 held already", x.press(2), STATE);
        due("14 BUTTONS held", x.many(5), 2);
        x.load(1);
        due("14 LOADED behind the press", x.ofEffect(1, START), NONE);
        x.free(2);
        x.pass(1);
        due("14 pressed anew", x.press(2), 2);
        due("14 begun anew", x.ofEffect(0, START), 8);
        x.watch(1);
        x.pass(1);
        due("14 LOST", x.press(3), STATE);
        due("14 LOST, unknown", x.press(4), UNKNOWN);
    }

    private static void promise14Repeats() {
        PushStick x = withSteady(1, 2, 3);
        for (int e = 0; e < 3; e++) {
            x.set(e, BUTTON, 1);
            x.set(e, REPEAT, e == 2 ? 0 : 10 + 5 * e);
            x.load(e);
        }
        x.pass(3);
        x.press(1);
        x.set(0, REPEAT, 4);
        x.set(0, BUTTON, NONE);
        x.set(2, REPEAT, 1);
        x.pass(9);
        due("14 not yet", x.ofEffect(0, START), 3);
        x.pass(1);
        due("14 by the REPEAT and BUTTON of the press", x.ofEffect(0, START), 13);
        due("14 the REPEAT was 0", x.ofEffect(2, START), 3);
        x.stop(1);
        x.pass(5);
        due("14 also one that was STOPPED", x.ofEffect(1, START), 18);
        x.play(0);
        x.pass(4);
        due("14 play", x.ofEffect(0, START), 18);
        x.pass(1);
        due("14 by the press, not by what begins it besides", x.ofEffect(0, START), 23);
        x.pass(50);
        due("14 the last of several", x.ofEffect(0, START), 73);
        due("14 the last of several", x.ofEffect(1, START), 63);
        x.unload(0);
        x.load(0);
        x.pass(20);
        due("14 it was not LOADED ever since", x.ofEffect(0, START), NONE);
        due("14 the other goes on", x.ofEffect(1, START), 93);
        x.stop(1);
        due("14 STOPPED as it was begun again: nothing is left of that", x.peak(0, 15, 0), 3);
        x.press(0);
        due("14 STOPPED as it was begun again", x.ofEffect(1, START), NONE);
        x.pass(14);
        due("14 STOPPED as it was begun again", x.ofEffect(1, START), NONE);
        x.pass(1);
        due("14 and again", x.ofEffect(1, START), 108);
        x.free(1);
        x.pass(30);
        due("14 let go", x.ofEffect(1, START), 108);
        twoButtonsOneEffect();
    }

    private static void twoButtonsOneEffect() {
        PushStick x = withSteady(1);
        x.load(0);
        x.set(0, BUTTON, 0);
        x.set(0, REPEAT, 10);
        x.press(0);
        x.set(0, BUTTON, 1);
        x.set(0, REPEAT, 7);
        x.pass(1);
        x.press(1);
        int[] starts = {1, 8, 10, 15, 20, 22, 29, 30};
        int at = 0;
        for (int t = 1; t <= 30; t++) {
            while (at + 1 < starts.length && starts[at + 1] <= t) {
                at++;
            }
            due("14 two BUTTONS, at " + t, x.ofEffect(0, START), starts[at]);
            x.pass(1);
        }
        x.free(0);
        x.pass(9);
        due("14 the second BUTTON is held yet", x.ofEffect(0, START), 36);
    }

    private static void promise15Free() {
        PushStick x = new PushStick();
        due("15 up", x.free(0), STATE);
        due("15 button 4", x.free(4), UNKNOWN);
        due("15 button -1", x.free(-1), UNKNOWN);
        x.press(0);
        due("15 at once", x.free(0), 0);
        x.pass(5);
        x.press(3);
        x.pass(20);
        x.press(0);
        x.pass(1);
        due("15 held", x.free(3), 21);
        due("15 up", x.free(3), STATE);
        due("15 the other", x.free(0), 1);
        x.press(2);
        x.watch(3);
        x.pass(3);
        due("15 all are up as the HOST is LOST", x.free(2), STATE);
    }

    private static void promise16Pass() {
        PushStick x = withSteady(1, 2);
        due("16 0", x.pass(0), OUTSIDE);
        due("16 100001", x.pass(100001), OUTSIDE);
        due("16 wild", x.pass(Integer.MAX_VALUE), OUTSIDE);
        due("16 wild", x.pass(Integer.MIN_VALUE), OUTSIDE);
        x.set(0, LENGTH, 5);
        x.set(0, DELAY, 2);
        x.play(0);
        x.play(1);
        due("16 both PLAY", x.pass(6), 2);
        due("16 one is over", x.pass(1), 1);
        due("16 NOW", x.many(6), 7);
        due("16 much", x.pass(99993), 1);
        for (int i = 0; i < 99; i++) {
            x.pass(100000);
        }
        due("16 the last NOW", x.many(6), 10000000);
        due("16 too far", x.pass(1), STATE);
        due("16 outside ahead of it", x.pass(0), OUTSIDE);
        due("16 NOW", x.many(6), 10000000);
        due("16 frames at the end", x.frames(), 2500001);
        due("16 looking beyond the end", x.soLong(2000), 0);
        due("16 it is ON", x.peak(0, 2000, 0), 2);
    }

    private static void promise17Hello() {
        PushStick x = withSteady(1);
        due("17 not LOST", x.hello(), 0);
        x.watch(10);
        x.pass(9);
        due("17 in time", x.hello(), 0);
        x.pass(9);
        due("17 not LOST", x.many(7), 0);
        x.pass(1);
        due("17 LOST", x.many(7), 1);
        x.pass(1000);
        due("17 LOST", x.many(7), 1);
        due("17 hello", x.hello(), 1);
        due("17 found", x.many(7), 0);
        due("17 again", x.hello(), 0);
        x.play(0);
        due("17 it counts from the hello", x.pass(9), 1);
        due("17 LOST again", x.pass(1), 0);
    }

    private static void promise18Watch() {
        PushStick x = withSteady(1, 2);
        due("18 -1", x.watch(-1), OUTSIDE);
        due("18 10001", x.watch(10001), OUTSIDE);
        due("18 10000", x.watch(10000), 0);
        x.pass(50);
        due("18 20", x.watch(20), 10000);
        due("18 WATCH", x.many(8), 20);
        x.set(0, LENGTH, 20);
        x.play(0);
        x.set(1, BUTTON, 0);
        x.set(1, REPEAT, 10);
        x.load(1);
        x.press(0);
        due("18 a WATCH that is set counts as a hello", x.pass(19), 2);
        due("18 LOST in the twentieth", x.pass(1), 0);
        due("18 LOST ahead of the REPEAT in it", x.ofEffect(1, START), NONE);
        due("18 what is over by then is not STOPPED", x.ofEffect(0, START), 50);
        due("18 BUTTONS are up", x.many(5), 0);
        due("18 what is LOADED stays", x.many(1), 2);
        due("18 set while LOST", x.watch(0), 20);
        due("18 LOST all the same", x.many(7), 1);
        due("18 play", x.play(0), STATE);
        x.hello();
        due("18 found", x.play(0), 0);
        due("18 no WATCH: never LOST", x.pass(10), 1);
        x.pass(100000);
        due("18 no WATCH: never LOST", x.many(7), 0);
        x.watch(30);
        x.play(1);
        x.press(0);
        due("18 a long time over it", x.pass(1000), 0);
        due("18 STOPPED", x.ofEffect(1, START), NONE);
        lostAndOver(3, 10, 0);
        lostAndOver(3, 5, 5);
        lostAndOver(1, 9, 9);
        lostAndOver(2, 9, NONE);
        lostAndOver(1, 1, 9);
        lostAndOver(2, 1, NONE);
    }

    /** Pressed at 0 and LOST at 10: what is over by then keeps its START, and the REPEAT in that millisecond is none. */
    private static void lostAndOver(int length, int repeat, int start) {
        PushStick x = withSteady(1);
        x.set(0, BUTTON, 0);
        x.set(0, LENGTH, length);
        x.set(0, REPEAT, repeat);
        x.load(0);
        x.watch(10);
        x.press(0);
        due("18 LOST", x.pass(10), 0);
        due("18 LENGTH " + length + ", REPEAT " + repeat, x.ofEffect(0, START), start);
    }

    private static void promise19Master() {
        PushStick x = withSteady(-777);
        due("19 -1", x.master(-1), OUTSIDE);
        due("19 101", x.master(101), OUTSIDE);
        due("19 33", x.master(33), 100);
        x.play(0);
        due("19 FORCE is cut", x.force(0, 1), 10000 - 256);
        due("19 RAW is not by it", x.force(0, 0), 100000 - 777);
        due("19 0", x.master(0), 33);
        due("19 FORCE", x.force(0, 1), 10000);
        due("19 100", x.master(100), 0);
        due("19 MASTER", x.many(9), 100);
    }

    private static void promise20PartOfWaves() {
        PushStick x = new PushStick();
        x.effect(0, -999, 0, 0, 0);
        due("20 effect 1", x.part(1, 0), UNKNOWN);
        due("20 effect -1", x.part(-1, 0), UNKNOWN);
        due("20 axis 2", x.part(0, 2), UNKNOWN);
        due("20 axis -1", x.part(0, -1), UNKNOWN);
        due("20 not begun", x.part(0, 0), 10000);
        x.set(0, GAIN, 33);
        x.set(0, X, 50);
        x.set(0, Y, -50);
        x.play(0);
        due("20 -999 by 33: -329, by 50: -164", x.part(0, 0), 10000 - 164);
        due("20 likewise on y", x.part(0, 1), 10000 + 164);
        squareParts();
        triangleParts();
        rampParts();
        envelopedPart();
    }

    private static void squareParts() {
        PushStick x = new PushStick();
        x.effect(1, 300, 20, 5, 3);
        x.play(0);
        // q is 3, 4, 0, 1, 2: 2 q is less than 5 for 0, 1, 2.
        int[] parts = {-280, -280, 320, 320, 320, -280};
        for (int i = 0; i < parts.length; i++) {
            due("20 SQUARE at " + i, x.part(0, 0), 10000 + parts[i]);
            x.pass(1);
        }
        PushStick z = new PushStick();
        z.effect(1, 300, 20, 6, 0);
        z.play(0);
        z.pass(2);
        due("20 SQUARE, q 2 of 6", z.part(0, 0), 10320);
        z.pass(1);
        due("20 SQUARE, half of it", z.part(0, 0), 9720);
    }

    private static void triangleParts() {
        PushStick x = new PushStick();
        x.effect(2, 100, 1, 7, 6);
        x.play(0);
        // q is 6, 0, 1, 2, 3, 4, 5; 100 times -3, -7, -3, 1, 5, 5, 1 by 7, cut.
        int[] parts = {1 - 42, 1 - 100, 1 - 42, 1 + 14, 1 + 71, 1 + 71, 1 + 14, 1 - 42};
        for (int i = 0; i < parts.length; i++) {
            due("20 TRIANGLE at " + i, x.part(0, 0), 10000 + parts[i]);
            x.pass(1);
        }
    }

    private static void rampParts() {
        PushStick x = new PushStick();
        x.effect(3, 10, -90, 0, 0);
        x.play(0);
        x.pass(5);
        due("20 RAMP without LENGTH", x.part(0, 0), 10010);
        x.set(0, LENGTH, 7);
        x.set(0, DELAY, 2);
        x.play(0);
        int[] parts = {0, 0, 10, 10 - 14, 10 - 28, 10 - 42, 10 - 57, 10 - 71, 10 - 85, 0};
        for (int i = 0; i < parts.length; i++) {
            due("20 RAMP at " + i, x.part(0, 0), 10000 + parts[i]);
            x.pass(1);
        }
    }

    private static void envelopedPart() {
        PushStick x = withSteady(-7);
        x.set(0, ATTACK, 3);
        x.set(0, ATTACK_LEVEL, 50);
        x.play(0);
        // ENVELOPE 50, 66, 83, 100 of -7, cut.
        int[] parts = {-3, -4, -5, -7};
        for (int i = 0; i < parts.length; i++) {
            due("20 with ATTACK at " + i, x.part(0, 0), 10000 + parts[i]);
            x.pass(1);
        }
    }

    private static void promise20PartByHand() {
        PushStick x = new PushStick();
        x.slots(6);
        x.effect(4, 33, 100, 50, 200);
        x.effect(4, -33, 100, 50, 200);
        x.effect(5, 7, 0, 500, 900);
        x.effect(6, 333, 100, 0, 400);
        x.effect(6, 333, -100, 1, 400);
        for (int e = 0; e < 5; e++) {
            x.set(e, Y, 100);
            x.set(e, ATTACK, 5000);
            x.play(e);
        }
        x.hand(150, 50);
        partsAre(x, "at c", 0, 0, 0, 0, 0, 0, -166, 0, 0, 0);
        x.hand(151, 49);
        partsAre(x, "1 outside c, cut to 0", 0, 0, 0, 0, 0, 0, -169, 0, 0, 0);
        x.hand(154, 46);
        partsAre(x, "4 outside c", -1, 1, 1, -1, 0, 0, -179, 0, 0, 0);
        x.hand(1000, -1000);
        partsAre(x, "far: no farther than d", -200, 200, 200, -200, 0, 0, -400, 0, 0, 400);
        x.hand(100, -100);
        partsAre(x, "at the walls", 0, 49, 0, -49, 0, 0, 0, 0, 0, 0);
        x.hand(101, -101);
        partsAre(x, "1 into the walls", 0, 49, 0, -49, 0, 0, -3, 0, 0, 3);
        x.hand(0, 0);
        x.pass(1000);
        x.hand(500, -500);
        partsAre(x, "SPEED at c", -115, 181, 115, -181, 0, 0, -400, 0, 0, 400);
        x.pass(10);
        x.hand(510, -400);
        partsAre(x, "SPEED 1000, 10000", -118, 148, 118, -148, -3, -66, -400, 0, 0, 400);
        x.pass(1);
        x.hand(-1000, 1000);
        due("20 WALL 1100 into it", x.part(4, 0), 10400);
        due("20 DAMPER no farther than d", x.part(2, 0), 10900);
        due("20 DAMPER no farther than d", x.part(2, 1), 9100);
    }

    /** Parts of effects 0 to 4, each on both axes. */
    private static void partsAre(PushStick x, String when, int... parts) {
        for (int i = 0; i < parts.length; i++) {
            due("20 by hand, " + when + ", effect " + i / 2 + ", axis " + i % 2, x.part(i / 2, i % 2), 10000 + parts[i]);
        }
    }

    private static void promise21Envelope() {
        PushStick x = withSteady(100);
        x.effect(4, 1, 0, 0, 1);
        x.effect(5, 1, 0, 0, 1);
        x.effect(6, 1, 0, 0, 1);
        due("21 unknown", x.envelope(4), UNKNOWN);
        due("21 unknown", x.envelope(-1), UNKNOWN);
        due("21 not ON", x.envelope(0), NONE);
        for (int e = 0; e < 4; e++) {
            x.play(e);
        }
        due("21 ON", x.envelope(0), 100);
        for (int kind = 1; kind < 4; kind++) {
            PushStick z = new PushStick();
            z.effect(kind, 1, 1, kind == 3 ? 0 : 2, 0);
            z.set(0, ATTACK, 1);
            z.set(0, ATTACK_LEVEL, 30);
            z.play(0);
            due("21 KIND " + kind, z.envelope(0), 30);
            z.pass(1);
            due("21 KIND " + kind, z.envelope(0), 100);
        }
        for (int e = 1; e < 4; e++) {
            due("21 no KIND with an ENVELOPE", x.envelope(e), NONE);
        }
        x.set(0, DELAY, 1);
        x.set(0, ATTACK, 4);
        x.set(0, ATTACK_LEVEL, 10);
        x.set(0, FADE, 7);
        x.set(0, FADE_LEVEL, 20);
        x.set(0, LENGTH, 9);
        x.play(0);
        // ATTACK 10, 32, 55, 77, 100 ..; FADE from r 6 (u 3) on 88, 77, 65, 54, 42, 31.
        int[] levels = {NONE, 10, 32, 55, 77, 77, 65, 54, 42, 31, NONE};
        for (int i = 0; i < levels.length; i++) {
            due("21 at " + i, x.envelope(0), levels[i]);
            x.pass(1);
        }
        x.set(0, LENGTH, NONE);
        due("21 without LENGTH no FADE", x.envelope(0), 100);
        x.set(0, ATTACK, 5000);
        x.set(0, ATTACK_LEVEL, 100);
        due("21 ATTACK LEVEL 100", x.envelope(0), 100);
    }

    private static void promise22Force() {
        PushStick x = new PushStick();
        x.slots(6);
        for (int e = 0; e < 6; e++) {
            x.effect(1, 1000, 1000, 2000, 0);
            x.set(e, Y, -100);
            x.play(e);
        }
        due("22 the greatest RAW", x.force(0, 0), 112000);
        due("22 the least RAW", x.force(1, 0), 88000);
        due("22 FORCE", x.force(0, 1), 11000);
        due("22 FORCE", x.force(1, 1), 9000);
        x.master(7);
        due("22 FORCE by MASTER", x.force(0, 1), 10070);
        due("22 FORCE by MASTER", x.force(1, 1), 9930);
        due("22 axis 2", x.force(2, 0), UNKNOWN);
        due("22 axis ahead of what", x.force(-1, 5), UNKNOWN);
        due("22 what 2", x.force(0, 2), OUTSIDE);
        due("22 what -1", x.force(0, -1), OUTSIDE);
    }

    private static void promise23Rate() {
        PushStick x = new PushStick();
        due("23 0", x.rate(0), OUTSIDE);
        due("23 1001", x.rate(1001), OUTSIDE);
        due("23 wild", x.rate(Integer.MIN_VALUE), OUTSIDE);
        due("23 1", x.rate(1), 250);
        due("23 1000", x.rate(1000), 1);
        due("23 RATE", x.many(10), 1000);
    }

    private static void promise24Frame() {
        PushStick x = new PushStick();
        due("24 -1", x.frame(-1), OUTSIDE);
        due("24 1000001", x.frame(1000001), OUTSIDE);
        due("24 0", x.frame(0), 0);
        due("24 the last", x.frame(1000000), 4000000);
        x.rate(1);
        due("24 the last, slow", x.frame(1000000), 1000000000);
        x.rate(3);
        int[] at = {0, 333, 666, 1000, 1333, 1666, 2000};
        for (int k = 0; k < at.length; k++) {
            due("24 it does not drift, " + k, x.frame(k), at[k]);
        }
        x.rate(999);
        due("24 fast", x.frame(998), 998);
        due("24 fast", x.frame(999), 1000);
    }

    private static void promise25Frames() {
        int[] rates = {1, 3, 7, 250, 333, 999, 1000};
        for (int rate : rates) {
            PushStick x = new PushStick();
            x.rate(rate);
            int count = 0;
            for (int now = 0; now < 250; now++) {
                while (1000 * count / rate <= now) {
                    count++;
                }
                due("25 frames at " + now + " by " + rate, x.frames(), count);
                x.pass(1);
            }
        }
        PushStick x = new PushStick();
        for (int i = 0; i < 100; i++) {
            x.pass(100000);
        }
        x.rate(1000);
        due("25 at the last NOW", x.frames(), 10000001);
    }

    private static void promise26Peak() {
        PushStick x = new PushStick();
        due("26 axis 2", x.peak(2, 0, 9), UNKNOWN);
        due("26 axis -1", x.peak(-1, 1, 0), UNKNOWN);
        due("26 n 0", x.peak(0, 0, 0), OUTSIDE);
        due("26 n 2001", x.peak(0, 2001, 0), OUTSIDE);
        due("26 what 2", x.peak(0, 1, 2), OUTSIDE);
        due("26 what -1", x.peak(0, 1, -1), OUTSIDE);
        due("26 nothing", x.peak(1, 2000, 0), 0);
        due("26 nothing: NOW", x.peak(1, 2000, 1), 0);
        due("26 n 1", x.peak(0, 1, 0), 0);
        x.effect(3, 0, -1000, 0, 0);
        x.set(0, LENGTH, 100);
        x.set(0, Y, 50);
        x.pass(3);
        x.play(0);
        due("26 the last of them", x.peak(0, 50, 0), 490);
        due("26 in 49", x.peak(0, 50, 1), 49);
        due("26 the end", x.peak(0, 2000, 0), 990);
        due("26 in 99", x.peak(0, 2000, 1), 99);
        due("26 on y", x.peak(1, 2000, 0), 495);
        x.watch(40);
        due("26 LOST in 40", x.peak(0, 2000, 0), 390);
        due("26 LOST in 40", x.peak(0, 2000, 1), 39);
        due("26 nothing has changed", x.pass(39), 1);
        due("26 NOW alone is left", x.peak(0, 2000, 0), 390);
        due("26 NOW alone is left", x.peak(0, 2000, 1), 0);
        peakWithRepeats();
    }

    private static void peakWithRepeats() {
        PushStick x = withSteady(600);
        x.effect(3, 900, 0, 0, 0);
        x.set(0, LENGTH, 3);
        x.set(0, BUTTON, 0);
        x.set(0, REPEAT, 10);
        x.set(1, LENGTH, 100);
        x.load(0);
        x.pass(1);
        x.press(0);
        x.pass(4);
        x.play(1);
        due("26 ahead of the REPEAT", x.peak(0, 6, 0), 900);
        due("26 ahead of the REPEAT", x.peak(0, 6, 1), 0);
        due("26 with the REPEAT in 6", x.peak(0, 7, 0), 1446);
        due("26 with the REPEAT in 6", x.peak(0, 7, 1), 6);
        due("26 of several", x.peak(0, 2000, 1), 6);
        x.free(0);
        due("26 let go", x.peak(0, 2000, 0), 900);
    }

    private static void promise27SoLong() {
        PushStick x = withSteady(600, 401, 600, -401);
        due("27 0", x.soLong(0), OUTSIDE);
        due("27 2001", x.soLong(2001), OUTSIDE);
        for (int e = 0; e < 4; e++) {
            x.set(e, X, e < 2 ? 100 : 0);
            x.set(e, Y, e < 2 ? 0 : 100);
        }
        x.set(3, Y, -100);
        x.set(0, LENGTH, 10);
        x.set(2, LENGTH, 30);
        x.set(2, DELAY, 5);
        x.play(0);
        x.play(1);
        due("27 on x for 10", x.soLong(2000), 10);
        due("27 on x for 10", x.soLong(7), 7);
        due("27 n 1", x.soLong(1), 1);
        x.play(2);
        x.play(3);
        due("27 on any AXIS: 0 .. 34", x.soLong(2000), 35);
        x.set(1, X, -100);
        due("27 on y: 5 .. 34", x.soLong(2000), 30);
        x.set(3, GAIN, 99);
        due("27 1000 is not HELD BACK", x.soLong(2000), 0);
        x.set(3, GAIN, 100);
        x.set(2, Y, -100);
        x.set(3, Y, 100);
        due("27 below -1000 it is", x.soLong(2000), 30);
        x.watch(9);
        due("27 till the HOST is LOST", x.soLong(2000), 4);
        PushStick z = withSteady(-1000, 1);
        z.play(0);
        due("27 -1000 is not HELD BACK", z.soLong(2000), 0);
        z.set(1, X, -100);
        z.play(1);
        due("27 -1001 is", z.soLong(2000), 2000);
    }

    private static void promise28Quiet() {
        PushStick x = withSteady(600, 500, 400, 300, 200, 100);
        due("28 0", x.quiet(0), OUTSIDE);
        due("28 401", x.quiet(401), OUTSIDE);
        x.slots(6);
        due("28 nothing", x.quiet(400), 0);
        x.play(1);
        x.play(0);
        due("28 one, the least", x.quiet(1), 1);
        x.play(2);
        due("28 1500: without 600", x.quiet(400), 1);
        x.play(3);
        x.play(4);
        due("28 2000: two", x.quiet(400), 3);
        x.stop(0);
        due("28 1400: without 500", x.quiet(400), 2);
        x.play(5);
        due("28 1500: without 500", x.quiet(400), 2);
        x.set(1, GAIN, 80);
        due("28 1400: one of two, the least", x.quiet(400), 2);
        x.set(1, GAIN, 60);
        due("28 1300: one of three, the least", x.quiet(400), 2);
        x.set(1, GAIN, 40);
        due("28 1200: of 200, 400, 300, 200 the least", x.quiet(400), 2);
        x.set(1, GAIN, 20);
        due("28 1100: any, the least", x.quiet(400), 2);
        x.set(1, GAIN, 18);
        due("28 1090: without 90 it is 1000", x.quiet(400), 2);
        x.set(1, GAIN, 0);
        due("28 1000 is not HELD BACK", x.quiet(400), 0);
        PushStick z = withSteady(100, 300, 800, -50);
        z.play(3);
        z.play(2);
        z.play(0);
        z.play(1);
        due("28 1150: not the least number, for it is not enough", z.quiet(9), 2);
        z.play(0);
        z.set(1, GAIN, 60);
        due("28 1030: of several the least", z.quiet(9), 1);
        z.set(3, X, 0);
        due("28 1080: of several the least", z.quiet(9), 1);
        quietInTime();
        quietWithRepeats();
    }

    private static void quietInTime() {
        PushStick x = withSteady(900, -900, 900, 900);
        x.set(1, DELAY, 10);
        x.set(2, DELAY, 20);
        x.set(3, DELAY, 30);
        x.set(1, Y, 100);
        for (int e = 0; e < 4; e++) {
            x.play(e);
        }
        due("28 20 are quiet", x.quiet(20), 0);
        due("28 900 and -900 and 900", x.quiet(30), 0);
        due("28 and 900 again", x.quiet(31), 1);
        x.set(1, LENGTH, 15);
        due("28 the one that helps is over in 25", x.quiet(25), 0);
        due("28 then two, of which one is to go", x.quiet(26), 1);
        due("28 then three, of which two are to go", x.quiet(31), 5);
        x.watch(26);
        due("28 till the HOST is LOST", x.quiet(31), 1);
        x.watch(25);
        due("28 till the HOST is LOST", x.quiet(400), 0);
        x.set(3, Y, 100);
        x.set(3, X, 0);
        x.set(3, DELAY, 0);
        x.set(1, Y, -100);
        due("28 on y from 10 on", x.quiet(11), 2);
        due("28 at first not", x.quiet(10), 0);
    }

    private static void quietWithRepeats() {
        PushStick x = withSteady(1000, 500);
        x.effect(1, 1000, 1000, 100, 0);
        x.set(0, BUTTON, 2);
        x.set(0, REPEAT, 20);
        x.set(0, LENGTH, 10);
        x.load(0);
        x.press(2);
        x.play(1);
        due("28 stop the first", x.quiet(20), 1);
        due("28 it comes again: stop the second", x.quiet(21), 2);
        x.set(2, BUTTON, 2);
        x.set(2, REPEAT, 30);
        x.load(2);
        x.free(2);
        x.press(2);
        due("28 the first and the third, or the second and the third", x.quiet(10), 5);
        due("28 the second and the third", x.quiet(21), 6);
        due("28 the third comes again, alone 2000", x.quiet(31), NONE);
        due("28 and so it goes on", x.quiet(400), NONE);
        x.watch(30);
        due("28 not if the HOST is LOST in that millisecond", x.quiet(31), 6);
        due("28 nothing has changed", x.many(2), 3);
    }

    private static void promise29Many() {
        PushStick x = withSteady(1, 2, 3, 4);
        x.slots(5);
        x.load(0);
        x.play(1);
        x.set(2, DELAY, 3);
        x.play(2);
        x.set(3, LENGTH, 1);
        x.play(3);
        x.press(0);
        x.press(3);
        x.master(55);
        x.rate(66);
        x.watch(77);
        x.pass(2);
        int[] many = {4, 4, 2, 1, 5, 2, 2, 0, 77, 55, 66};
        for (int what = 0; what <= 10; what++) {
            due("29 many(" + what + ")", x.many(what), many[what]);
        }
        x.pass(1);
        due("29 ON", x.many(3), 2);
        x.pass(74);
        due("29 LOST", x.many(7), 1);
        due("29 BUTTONS", x.many(5), 0);
        due("29 PLAY", x.many(2), 0);
        due("29 -1", x.many(-1), OUTSIDE);
        due("29 11", x.many(11), OUTSIDE);
        for (int wild : WILD) {
            due("29 wild", x.many(wild), OUTSIDE);
        }
    }
}
