/**
 * A stick that pushes back: effects in the few slots of a device, what they push now, and what is to come.
 * The promises that its calls keep stand in the project's document.
 */
public final class PushStick {
    public static final int UNKNOWN = -1, OUTSIDE = -2, STATE = -3, FULL = -4, NONE = -9;

    private static final int MOST_EFFECTS = 12;
    private static final int MOST_SLOTS = 6;
    private static final int MOST_SETS = 64;
    private static final int AXES = 2;
    private static final int BUTTONS = 4;
    private static final int LAST_NOW = 10000000;
    private static final int MOST_TO_COME = 2000;
    private static final int MOST_QUIET = 400;
    private static final int MOST_RAW = 1000;
    private static final int MOST_FRAME = 1000000;

    /** What is put on top of answers that may be below 0. */
    private static final int ABOVE = 10000;
    private static final int ABOVE_RAW = 100000;
    private static final int ABOVE_HAND = 10000000;

    /** Behind every millisecond that a run can reach or look at. */
    private static final int NEVER = 1000000000;

    private static final int STEADY = 0, SQUARE = 1, TRIANGLE = 2, RAMP = 3, SPRING = 4, DAMPER = 5, WALL = 6;
    private static final int KINDS = 7;

    private static final int LENGTH = 0, DELAY = 1, ATTACK = 2, ATTACK_LEVEL = 3, FADE = 4, FADE_LEVEL = 5;
    private static final int X = 6, Y = 7, GAIN = 8, RANK = 9, BUTTON = 10, REPEAT = 11;
    private static final int NUMBERS = 12;

    /** Bounds of a, b, c, d: four a kind, kind by kind. Of waves d has to be less than c besides. */
    private static final int[] SHAPE_LEAST = {
        -1000, 0, 0, 0,
        0, -1000, 2, 0,
        0, -1000, 2, 0,
        -1000, -1000, 0, 0,
        -100, -1000, 0, 0,
        -100, 0, 0, 0,
        1, -1000, 0, 0
    };
    private static final int[] SHAPE_MOST = {
        1000, 0, 0, 0,
        1000, 1000, 2000, 1999,
        1000, 1000, 2000, 1999,
        1000, 1000, 0, 0,
        100, 1000, 1000, 1000,
        100, 0, 9999, 1000,
        1000, 1000, 1, 1000
    };

    /** Bounds of the numbers that are set, and what they are at first. LENGTH and BUTTON may be NONE besides. */
    private static final int[] NUMBER_LEAST = {1, 0, 0, 0, 0, 0, -100, -100, 0, 0, 0, 0};
    private static final int[] NUMBER_MOST = {60000, 5000, 5000, 100, 5000, 100, 100, 100, 100, 9, 3, 5000};
    private static final int[] NUMBER_AT_FIRST = {-9, 0, 0, 0, 0, 0, 100, 0, 100, 0, -9, 0};

    private final Effect[] effects = new Effect[MOST_EFFECTS];
    private int effectCount = 0;
    private final Effect[] inSlot = new Effect[MOST_SLOTS];
    private int slotCount = 4;
    private final Axis[] axes = new Axis[AXES];
    private int movedAt = 0;
    private final Button[] buttons = new Button[BUTTONS];
    private int now = 0;
    private int watchTime = 0;
    private int helloAt = 0;
    private boolean lost = false;
    private int masterGain = 100;
    private int frameRate = 250;

    /** Rows that quiet() works in: made once, because what a run makes is counted. */
    private final Effect[] playing = new Effect[MOST_SLOTS];
    private final int[] leftBySet = new int[MOST_SETS];
    private final boolean[] heldBackBySet = new boolean[MOST_SETS];

    public PushStick() {
        for (int e = 0; e < MOST_EFFECTS; e++) {
            effects[e] = new Effect(e);
        }
        for (int i = 0; i < AXES; i++) {
            axes[i] = new Axis(X + i);
        }
        for (int b = 0; b < BUTTONS; b++) {
            buttons[b] = new Button();
        }
    }

    // ---- 1 effects, the hand

    public int effect(int kind, int a, int b, int c, int d) {
        if (!isShape(kind, a, b, c, d)) {
            return OUTSIDE;
        }
        if (effectCount >= MOST_EFFECTS) {
            return FULL;
        }
        int e = effectCount;
        effects[e].become(kind, a, b, c, d);
        effectCount++;
        return e;
    }

    public int set(int e, int what, int v) {
        if (!isEffect(e)) {
            return UNKNOWN;
        }
        if (!isNumber(what, v)) {
            return OUTSIDE;
        }
        int was = toldNumber(effects[e], what);
        effects[e].numbers[what] = v;
        return was;
    }

    public int drop() {
        if (effectCount < 1) {
            return STATE;
        }
        takeOut(effects[effectCount - 1]);
        effectCount--;
        return effectCount;
    }

    public int hand(int x, int y) {
        if (!isWithin(x, -1000, 1000) || !isWithin(y, -1000, 1000)) {
            return OUTSIDE;
        }
        int gone = now - movedAt;
        axes[0].moveTo(x, gone);
        axes[1].moveTo(y, gone);
        movedAt = now;
        return 1;
    }

    public int ofAxis(int axis, int what) {
        if (!isAxis(axis)) {
            return UNKNOWN;
        }
        if (!isWithin(what, 0, 1)) {
            return OUTSIDE;
        }
        return ABOVE_HAND + (what == 0 ? axes[axis].place : axes[axis].speed);
    }

    public int ofEffect(int e, int what) {
        if (!isEffect(e)) {
            return UNKNOWN;
        }
        Effect it = effects[e];
        if (isWithin(what, 10, 9 + NUMBERS)) {
            return toldNumber(it, what - 10);
        }
        switch (what) {
            case 0:
                return it.kind;
            case 1:
                return it.a + ABOVE;
            case 2:
                return it.b + ABOVE;
            case 3:
                return it.c + ABOVE;
            case 4:
                return it.d + ABOVE;
            case 5:
                return it.slotNumber;
            case 6:
                return it.playsAt(it.start, now) ? 1 : 0;
            case 7:
                return it.isOnAt(it.start, now) ? 1 : 0;
            case 8:
                return it.start;
            default:
                return OUTSIDE;
        }
    }

    // ---- 2 slots, time

    public int slots(int n) {
        if (!isWithin(n, 1, MOST_SLOTS)) {
            return OUTSIDE;
        }
        for (int k = n; k < MOST_SLOTS; k++) {
            if (inSlot[k] != null) {
                return STATE;
            }
        }
        int was = slotCount;
        slotCount = n;
        return was;
    }

    public int slot(int k) {
        if (k < 0 || k >= slotCount || k >= MOST_SLOTS) {
            return UNKNOWN;
        }
        Effect it = inSlot[k];
        return it == null ? NONE : it.number;
    }

    public int load(int e) {
        if (!isEffect(e)) {
            return UNKNOWN;
        }
        return bringIn(effects[e]);
    }

    public int unload(int e) {
        if (!isEffect(e)) {
            return UNKNOWN;
        }
        int was = effects[e].slotNumber;
        if (was == NONE) {
            return STATE;
        }
        takeOut(effects[e]);
        return was;
    }

    public int play(int e) {
        if (!isEffect(e)) {
            return UNKNOWN;
        }
        if (lost) {
            return STATE;
        }
        int k = bringIn(effects[e]);
        if (k != FULL) {
            effects[e].start = now;
        }
        return k;
    }

    public int stop(int e) {
        if (!isEffect(e)) {
            return UNKNOWN;
        }
        Effect it = effects[e];
        int played = it.playsAt(it.start, now) ? 1 : 0;
        it.start = NONE;
        return played;
    }

    public int press(int b) {
        if (!isButton(b)) {
            return UNKNOWN;
        }
        if (buttons[b].held || lost) {
            return STATE;
        }
        buttons[b].held = true;
        buttons[b].since = now;
        int begun = 0;
        for (int k = 0; k < MOST_SLOTS; k++) {
            Effect it = inSlot[k];
            if (it != null && it.numbers[BUTTON] == b) {
                it.start = now;
                it.beats[b] = it.numbers[REPEAT];
                begun++;
            }
        }
        return begun;
    }

    public int free(int b) {
        if (!isButton(b)) {
            return UNKNOWN;
        }
        if (!buttons[b].held) {
            return STATE;
        }
        letGo(b);
        return now - buttons[b].since;
    }

    public int pass(int ms) {
        if (!isWithin(ms, 1, 100000)) {
            return OUTSIDE;
        }
        int then = now + ms;
        if (then > LAST_NOW) {
            return STATE;
        }
        int loss = lossAt();
        beginAgainUpTo(Math.min(then, loss - 1));
        now = then;
        if (loss <= then) {
            loseHostAt(loss);
        }
        return howManyPlay();
    }

    public int hello() {
        int was = lost ? 1 : 0;
        lost = false;
        helloAt = now;
        return was;
    }

    public int watch(int v) {
        if (!isWithin(v, 0, 10000)) {
            return OUTSIDE;
        }
        int was = watchTime;
        watchTime = v;
        helloAt = now;
        return was;
    }

    // ---- 3 forces

    public int master(int v) {
        if (!isWithin(v, 0, 100)) {
            return OUTSIDE;
        }
        int was = masterGain;
        masterGain = v;
        return was;
    }

    public int part(int e, int axis) {
        if (!isEffect(e) || !isAxis(axis)) {
            return UNKNOWN;
        }
        Effect it = effects[e];
        return it.partAt(it.start, now, axes[axis]) + ABOVE;
    }

    public int envelope(int e) {
        if (!isEffect(e)) {
            return UNKNOWN;
        }
        Effect it = effects[e];
        if (!it.isOnAt(it.start, now) || !it.hasEnvelope()) {
            return NONE;
        }
        return it.envelopeAt(it.sinceDelay(it.start, now));
    }

    public int force(int axis, int what) {
        if (!isAxis(axis)) {
            return UNKNOWN;
        }
        if (!isWithin(what, 0, 1)) {
            return OUTSIDE;
        }
        int raw = rawAt(now, axes[axis]);
        if (what == 0) {
            return raw + ABOVE_RAW;
        }
        return noFarther(raw, MOST_RAW) * masterGain / 100 + ABOVE;
    }

    // ---- 4 frames, what is to come

    public int rate(int v) {
        if (!isWithin(v, 1, 1000)) {
            return OUTSIDE;
        }
        int was = frameRate;
        frameRate = v;
        return was;
    }

    public int frame(int k) {
        if (!isWithin(k, 0, MOST_FRAME)) {
            return OUTSIDE;
        }
        return quotient(1000 * k, frameRate);
    }

    public int frames() {
        // FRAME k is no later than NOW just if 1000 k is less than RATE times the millisecond behind NOW.
        long bound = (long) frameRate * (now + 1);
        return (int) ((bound + 999) / 1000);
    }

    public int peak(int axis, int n, int what) {
        if (!isAxis(axis)) {
            return UNKNOWN;
        }
        if (!isWithin(n, 1, MOST_TO_COME) || !isWithin(what, 0, 1)) {
            return OUTSIDE;
        }
        int greatest = 0;
        int first = now;
        int end = endOfPush(n);
        for (int t = now; t < end; t++) {
            int push = Math.abs(rawAt(t, axes[axis]));
            if (push > greatest) {
                greatest = push;
                first = t;
            }
        }
        return what == 0 ? greatest : first - now;
    }

    public int soLong(int n) {
        if (!isWithin(n, 1, MOST_TO_COME)) {
            return OUTSIDE;
        }
        int heldBack = 0;
        int end = endOfPush(n);
        for (int t = now; t < end; t++) {
            if (isHeldBack(rawAt(t, axes[0])) || isHeldBack(rawAt(t, axes[1]))) {
                heldBack++;
            }
        }
        return heldBack;
    }

    public int quiet(int n) {
        if (!isWithin(n, 1, MOST_QUIET)) {
            return OUTSIDE;
        }
        int count = gatherPlaying();
        int sets = 1 << count;
        for (int set = 0; set < sets; set++) {
            heldBackBySet[set] = false;
        }
        int end = endOfPush(n);
        for (int t = now; t < end; t++) {
            markHeldBack(t, axes[0], sets);
            markHeldBack(t, axes[1], sets);
        }
        int best = fewestNotHeldBack(sets);
        return best == NONE ? NONE : asEffects(best, count);
    }

    public int many(int what) {
        switch (what) {
            case 0:
                return effectCount;
            case 1:
                return howManyLoaded();
            case 2:
                return howManyPlay();
            case 3:
                return howManyOn();
            case 4:
                return slotCount;
            case 5:
                return howManyHeld();
            case 6:
                return now;
            case 7:
                return lost ? 1 : 0;
            case 8:
                return watchTime;
            case 9:
                return masterGain;
            case 10:
                return frameRate;
            default:
                return OUTSIDE;
        }
    }

    // ---- what arguments may be

    private static boolean isWithin(int v, int least, int most) {
        return v >= least && v <= most;
    }

    private boolean isEffect(int e) {
        return e >= 0 && e < effectCount && e < MOST_EFFECTS;
    }

    private static boolean isAxis(int axis) {
        return axis >= 0 && axis < AXES;
    }

    private static boolean isButton(int b) {
        return b >= 0 && b < BUTTONS;
    }

    private static boolean isShape(int kind, int a, int b, int c, int d) {
        if (kind < 0 || kind >= KINDS) {
            return false;
        }
        boolean isWave = kind == SQUARE || kind == TRIANGLE;
        return isShapeNumber(kind, 0, a) && isShapeNumber(kind, 1, b) && isShapeNumber(kind, 2, c)
            && isShapeNumber(kind, 3, d) && (!isWave || d < c);
    }

    private static boolean isShapeNumber(int kind, int which, int v) {
        int i = 4 * kind + which;
        return isWithin(v, SHAPE_LEAST[i], SHAPE_MOST[i]);
    }

    private static boolean isNumber(int what, int v) {
        if (what < 0 || what >= NUMBERS) {
            return false;
        }
        if (v == NONE && (what == LENGTH || what == BUTTON)) {
            return true;
        }
        return isWithin(v, NUMBER_LEAST[what], NUMBER_MOST[what]);
    }

    private static int toldNumber(Effect it, int what) {
        return what == X || what == Y ? it.numbers[what] + ABOVE : it.numbers[what];
    }

    // ---- arithmetic

    /** Cut towards 0. No divisor of a run is below 1; the test keeps the machine from throwing whatever happens. */
    private static int quotient(int v, int by) {
        return by > 0 ? v / by : 0;
    }

    private static int remainder(int v, int by) {
        return by > 0 ? v % by : 0;
    }

    private static int noFarther(int v, int most) {
        if (v > most) {
            return most;
        }
        return v < -most ? -most : v;
    }

    // ---- slots

    /** LOADs an EFFECT: its SLOT, or FULL. */
    private int bringIn(Effect it) {
        if (it.slotNumber != NONE) {
            return it.slotNumber;
        }
        int k = leastFreeSlot();
        if (k == NONE) {
            Effect goes = whichGoes(it.numbers[RANK]);
            if (goes == null) {
                return FULL;
            }
            k = goes.slotNumber;
            takeOut(goes);
        }
        if (k >= 0 && k < MOST_SLOTS) {
            inSlot[k] = it;
            it.slotNumber = k;
        }
        return k;
    }

    private int leastFreeSlot() {
        for (int k = 0; k < slotCount; k++) {
            if (inSlot[k] == null) {
                return k;
            }
        }
        return NONE;
    }

    /** Which EFFECT makes room for one of a RANK, while no SLOT is free; null: none does. */
    private Effect whichGoes(int rank) {
        Effect idle = null;
        Effect lesser = null;
        // By number, so that of several of one RANK the least number is kept.
        for (int e = 0; e < effectCount; e++) {
            Effect it = effects[e];
            if (it.slotNumber == NONE) {
                continue;
            }
            int itsRank = it.numbers[RANK];
            if (!it.playsAt(it.start, now)) {
                if (idle == null || itsRank < idle.numbers[RANK]) {
                    idle = it;
                }
            } else if (itsRank < rank && (lesser == null || itsRank < lesser.numbers[RANK])) {
                lesser = it;
            }
        }
        return idle != null ? idle : lesser;
    }

    /** LOADED no more: STOPPED, and no BUTTON that is held begins it again. */
    private void takeOut(Effect it) {
        int k = it.slotNumber;
        if (k >= 0 && k < MOST_SLOTS) {
            inSlot[k] = null;
        }
        it.slotNumber = NONE;
        it.start = NONE;
        for (int b = 0; b < BUTTONS; b++) {
            it.beats[b] = 0;
        }
    }

    // ---- time

    private void letGo(int b) {
        buttons[b].held = false;
        for (int e = 0; e < MOST_EFFECTS; e++) {
            effects[e].beats[b] = 0;
        }
    }

    /** The millisecond in which the HOST will be LOST, if it says nothing. */
    private int lossAt() {
        return !lost && watchTime > 0 ? helloAt + watchTime : NEVER;
    }

    /** START as it is at t (NOW or behind it), if nothing else is done and the HOST is not LOST till then. */
    private int startBy(Effect it, int t) {
        int latest = it.start;
        for (int b = 0; b < BUTTONS; b++) {
            int beat = it.beats[b];
            if (beat > 0) {
                int last = t - remainder(t - buttons[b].since, beat);
                // What was begun up to NOW is in start already, or was STOPPED since.
                if (last > now && last > latest) {
                    latest = last;
                }
            }
        }
        return latest;
    }

    private void beginAgainUpTo(int t) {
        for (int k = 0; k < MOST_SLOTS; k++) {
            Effect it = inSlot[k];
            if (it != null) {
                it.start = startBy(it, t);
            }
        }
    }

    private void loseHostAt(int t) {
        lost = true;
        for (int k = 0; k < MOST_SLOTS; k++) {
            Effect it = inSlot[k];
            // One that is over by then does not PLAY: it is not STOPPED, so it keeps its START.
            if (it != null && it.playsAt(it.start, t)) {
                it.start = NONE;
            }
        }
        for (int b = 0; b < BUTTONS; b++) {
            letGo(b);
        }
    }

    // ---- counts

    private int howManyLoaded() {
        int n = 0;
        for (int k = 0; k < MOST_SLOTS; k++) {
            if (inSlot[k] != null) {
                n++;
            }
        }
        return n;
    }

    private int howManyPlay() {
        int n = 0;
        for (int k = 0; k < MOST_SLOTS; k++) {
            Effect it = inSlot[k];
            if (it != null && it.playsAt(it.start, now)) {
                n++;
            }
        }
        return n;
    }

    private int howManyOn() {
        int n = 0;
        for (int k = 0; k < MOST_SLOTS; k++) {
            Effect it = inSlot[k];
            if (it != null && it.isOnAt(it.start, now)) {
                n++;
            }
        }
        return n;
    }

    private int howManyHeld() {
        int n = 0;
        for (int b = 0; b < BUTTONS; b++) {
            if (buttons[b].held) {
                n++;
            }
        }
        return n;
    }

    // ---- what is to come

    /** The first millisecond of n from NOW on that is not to be looked at: as the HOST is LOST, RAW is 0 ever after. */
    private int endOfPush(int n) {
        return Math.min(now + n, lossAt());
    }

    /** RAW at t, NOW or behind it but ahead of the HOST's being LOST. */
    private int rawAt(int t, Axis axis) {
        int raw = 0;
        for (int k = 0; k < MOST_SLOTS; k++) {
            Effect it = inSlot[k];
            if (it != null) {
                raw += it.partAt(startBy(it, t), t, axis);
            }
        }
        return raw;
    }

    private static boolean isHeldBack(int raw) {
        return raw > MOST_RAW || raw < -MOST_RAW;
    }

    /** Puts the EFFECTS that PLAY NOW into their row, by number: how many. */
    private int gatherPlaying() {
        int n = 0;
        for (int e = 0; e < effectCount && n < MOST_SLOTS; e++) {
            Effect it = effects[e];
            if (it.playsAt(it.start, now)) {
                playing[n] = it;
                n++;
            }
        }
        return n;
    }

    /** Marks each set of playing EFFECTS (bit i: the i-th of the row) that leaves RAW HELD BACK at t, if STOPPED NOW. */
    private void markHeldBack(int t, Axis axis, int sets) {
        leftBySet[0] = rawAt(t, axis);
        int half = 1;
        // The sets that have the i-th EFFECT as their highest are those below them, and it.
        for (int i = 0; i < MOST_SLOTS && half < sets; i++) {
            int lack = lackAt(playing[i], t, axis);
            for (int set = 0; set < half; set++) {
                leftBySet[half + set] = leftBySet[set] - lack;
            }
            half = 2 * half;
        }
        for (int set = 0; set < sets; set++) {
            if (isHeldBack(leftBySet[set])) {
                heldBackBySet[set] = true;
            }
        }
    }

    /** By how much RAW at t is less if an EFFECT is STOPPED NOW: nothing once a BUTTON has begun it again. */
    private int lackAt(Effect it, int t, Axis axis) {
        if (it == null) {
            return 0;
        }
        int start = startBy(it, t);
        return start > now ? 0 : it.partAt(start, t, axis);
    }

    private int fewestNotHeldBack(int sets) {
        int best = NONE;
        for (int set = 0; set < sets; set++) {
            boolean isFewer = best == NONE || Integer.bitCount(set) < Integer.bitCount(best);
            if (!heldBackBySet[set] && isFewer) {
                best = set;
            }
        }
        return best;
    }

    /** A set of the playing row as a set of EFFECTS by their numbers; the row goes up, so the least stays the least. */
    private int asEffects(int set, int count) {
        int numbers = 0;
        for (int i = 0; i < count; i++) {
            Effect it = playing[i];
            if (it != null && (set >> i & 1) == 1) {
                numbers |= 1 << it.number;
            }
        }
        return numbers;
    }

    /** One direction in which the HAND moves. */
    private static final class Axis {
        /** Which NUMBER of an EFFECT says how much of it goes this way. */
        final int aim;
        int place = 0;
        int speed = 0;

        Axis(int aim) {
            this.aim = aim;
        }

        void moveTo(int to, int gone) {
            if (gone > 0) {
                speed = 1000 * (to - place) / gone;
            }
            place = to;
        }
    }

    private static final class Button {
        boolean held = false;
        int since = 0;
    }

    /** An EFFECT. Its functions of time take the START, since what is to come has others than the one that is kept. */
    private static final class Effect {
        final int number;
        int kind = STEADY;
        int a = 0;
        int b = 0;
        int c = 0;
        int d = 0;
        final int[] numbers = new int[NUMBERS];
        int slotNumber = NONE;
        int start = NONE;
        /** By BUTTON: after how many milliseconds it begins this again while it is held; 0: it does not. */
        final int[] beats = new int[BUTTONS];

        Effect(int number) {
            this.number = number;
        }

        void become(int newKind, int newA, int newB, int newC, int newD) {
            kind = newKind;
            a = newA;
            b = newB;
            c = newC;
            d = newD;
            for (int k = 0; k < NUMBERS; k++) {
                numbers[k] = NUMBER_AT_FIRST[k];
            }
        }

        boolean playsAt(int begun, int t) {
            int length = numbers[LENGTH];
            return begun != NONE && (length == NONE || t < begun + numbers[DELAY] + length);
        }

        boolean isOnAt(int begun, int t) {
            return playsAt(begun, t) && t >= begun + numbers[DELAY];
        }

        int sinceDelay(int begun, int t) {
            return t - begun - numbers[DELAY];
        }

        boolean hasEnvelope() {
            return kind <= RAMP;
        }

        int envelopeAt(int u) {
            int attack = levelAt(numbers[ATTACK_LEVEL], u, numbers[ATTACK]);
            if (numbers[LENGTH] == NONE) {
                return attack;
            }
            int fade = levelAt(numbers[FADE_LEVEL], numbers[LENGTH] - u, numbers[FADE]);
            return Math.min(attack, fade);
        }

        /** From a level at 0 up to 100 at whole and behind it: the same for ATTACK and, from its end on, for FADE. */
        static int levelAt(int level, int gone, int whole) {
            if (whole < 1 || gone >= whole) {
                return 100;
            }
            return level + (100 - level) * gone / whole;
        }

        /** PART on an AXIS at t. */
        int partAt(int begun, int t, Axis axis) {
            if (!isOnAt(begun, t)) {
                return 0;
            }
            int value = valueAt(sinceDelay(begun, t), axis);
            return value * numbers[GAIN] / 100 * numbers[axis.aim] / 100;
        }

        int valueAt(int u, Axis axis) {
            switch (kind) {
                case SPRING:
                    return awayFrom(axis.place - b, 100);
                case DAMPER:
                    return awayFrom(axis.speed, 1000);
                case WALL:
                    return wallAt(axis.place);
                default:
                    return waveAt(u) * envelopeAt(u) / 100;
            }
        }

        int waveAt(int u) {
            switch (kind) {
                case SQUARE:
                    return 2 * remainder(u + d, c) < c ? b + a : b - a;
                case TRIANGLE:
                    return b + quotient(a * riseAt(remainder(u + d, c)), c);
                case RAMP:
                    return numbers[LENGTH] == NONE ? a : a + quotient((b - a) * u, numbers[LENGTH]);
                default:
                    return a;
            }
        }

        /** From -c up to c in the first half of a TRIANGLE's turn, and down again. */
        int riseAt(int q) {
            return 2 * q < c ? 4 * q - c : 3 * c - 4 * q;
        }

        /** What SPRING and DAMPER push: against o, as far as it is outside c. */
        int awayFrom(int o, int by) {
            if (Math.abs(o) <= c) {
                return 0;
            }
            int outside = o > 0 ? o - c : o + c;
            return noFarther(quotient(-a * outside, by), d);
        }

        int wallAt(int place) {
            int into = c == 0 ? place - b : b - place;
            if (into <= 0) {
                return 0;
            }
            int push = noFarther(a * into / 100, d);
            return c == 0 ? -push : push;
        }
    }
}
