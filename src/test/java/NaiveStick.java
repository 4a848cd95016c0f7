import java.util.ArrayList;
import java.util.Arrays;
import java.util.List;

/**
 * The document once more, in the slowest and plainest way: time goes by one millisecond after another, and what is to
 * come is found by copying all and letting it go on. It shares nothing with the class, so that both can be compared.
 */
final class NaiveStick {
    static final int UNKNOWN = -1, OUTSIDE = -2, STATE = -3, FULL = -4, NONE = -9;

    private static final class Fx {
        int kind;
        int[] abcd;
        int[] number = {NONE, 0, 0, 0, 0, 0, 100, 0, 100, 0, NONE, 0};
        Integer start = null;

        Fx copy() {
            Fx f = new Fx();
            f.kind = kind;
            f.abcd = abcd;
            f.number = number.clone();
            f.start = start;
            return f;
        }
    }

    /** One that a held button begins again. */
    private record Again(int button, int effect, int repeat) {
    }

    private List<Fx> fx = new ArrayList<>();
    private int[] slotOf = {NONE, NONE, NONE, NONE, NONE, NONE};
    private int slotCount = 4;
    private int[] place = {0, 0};
    private int[] speed = {0, 0};
    private int moved = 0;
    private Integer[] pressed = new Integer[4];
    private List<Again> agains = new ArrayList<>();
    private int now = 0;
    private int watch = 0;
    private int lastHello = 0;
    private boolean lost = false;
    private int master = 100;
    private int rate = 250;

    private NaiveStick copy() {
        NaiveStick s = new NaiveStick();
        for (Fx f : fx) {
            s.fx.add(f.copy());
        }
        s.slotOf = slotOf.clone();
        s.slotCount = slotCount;
        s.place = place.clone();
        s.speed = speed.clone();
        s.moved = moved;
        s.pressed = pressed.clone();
        s.agains = new ArrayList<>(agains);
        s.now = now;
        s.watch = watch;
        s.lastHello = lastHello;
        s.lost = lost;
        s.master = master;
        s.rate = rate;
        return s;
    }

    private void tick() {
        now++;
        if (!lost && watch > 0 && now == lastHello + watch) {
            lost = true;
            for (Fx f : fx) {
                if (plays(f)) {
                    f.start = null;
                }
            }
            Arrays.fill(pressed, null);
            agains.clear();
        }
        for (Again again : agains) {
            if ((now - pressed[again.button]) % again.repeat == 0) {
                fx.get(again.effect).start = now;
            }
        }
    }

    private boolean plays(Fx f) {
        return f.start != null && (f.number[0] == NONE || now < f.start + f.number[1] + f.number[0]);
    }

    private boolean on(Fx f) {
        if (f.start == null || now < f.start + f.number[1]) {
            return false;
        }
        return f.number[0] == NONE || now < f.start + f.number[1] + f.number[0];
    }

    private int loadedSlot(int e) {
        for (int k = 0; k < 6; k++) {
            if (slotOf[k] == e) {
                return k;
            }
        }
        return NONE;
    }

    private static boolean in(int v, int least, int most) {
        return least <= v && v <= most;
    }

    private boolean unknown(int e) {
        return !in(e, 0, fx.size() - 1);
    }

    int effect(int kind, int a, int b, int c, int d) {
        boolean fits;
        switch (kind) {
            case 0 -> fits = in(a, -1000, 1000) && b == 0 && c == 0 && d == 0;
            case 1, 2 -> fits = in(a, 0, 1000) && in(b, -1000, 1000) && in(c, 2, 2000) && in(d, 0, c - 1);
            case 3 -> fits = in(a, -1000, 1000) && in(b, -1000, 1000) && c == 0 && d == 0;
            case 4 -> fits = in(a, -100, 100) && in(b, -1000, 1000) && in(c, 0, 1000) && in(d, 0, 1000);
            case 5 -> fits = in(a, -100, 100) && b == 0 && in(c, 0, 9999) && in(d, 0, 1000);
            case 6 -> fits = in(a, 1, 1000) && in(b, -1000, 1000) && in(c, 0, 1) && in(d, 0, 1000);
            default -> fits = false;
        }
        if (!fits) {
            return OUTSIDE;
        }
        if (fx.size() == 12) {
            return FULL;
        }
        Fx f = new Fx();
        f.kind = kind;
        f.abcd = new int[] {a, b, c, d};
        fx.add(f);
        return fx.size() - 1;
    }

    private static boolean settable(int what, int v) {
        return switch (what) {
            case 0 -> v == NONE || in(v, 1, 60000);
            case 1, 2, 4, 11 -> in(v, 0, 5000);
            case 3, 5, 8 -> in(v, 0, 100);
            case 6, 7 -> in(v, -100, 100);
            case 9 -> in(v, 0, 9);
            case 10 -> v == NONE || in(v, 0, 3);
            default -> false;
        };
    }

    int set(int e, int what, int v) {
        if (unknown(e)) {
            return UNKNOWN;
        }
        if (!settable(what, v)) {
            return OUTSIDE;
        }
        int was = ofEffect(e, 10 + what);
        fx.get(e).number[what] = v;
        return was;
    }

    int drop() {
        if (fx.isEmpty()) {
            return STATE;
        }
        goes(fx.size() - 1);
        fx.remove(fx.size() - 1);
        return fx.size();
    }

    private void goes(int e) {
        for (int k = 0; k < 6; k++) {
            if (slotOf[k] == e) {
                slotOf[k] = NONE;
            }
        }
        fx.get(e).start = null;
        agains.removeIf(again -> again.effect == e);
    }

    int hand(int x, int y) {
        if (!in(x, -1000, 1000) || !in(y, -1000, 1000)) {
            return OUTSIDE;
        }
        if (now > moved) {
            speed[0] = 1000 * (x - place[0]) / (now - moved);
            speed[1] = 1000 * (y - place[1]) / (now - moved);
        }
        place[0] = x;
        place[1] = y;
        moved = now;
        return 1;
    }

    int ofAxis(int axis, int what) {
        if (!in(axis, 0, 1)) {
            return UNKNOWN;
        }
        if (!in(what, 0, 1)) {
            return OUTSIDE;
        }
        return 10000000 + (what == 0 ? place : speed)[axis];
    }

    int ofEffect(int e, int what) {
        if (unknown(e)) {
            return UNKNOWN;
        }
        Fx f = fx.get(e);
        if (what == 16 || what == 17) {
            return f.number[what - 10] + 10000;
        }
        if (in(what, 10, 21)) {
            return f.number[what - 10];
        }
        return switch (what) {
            case 0 -> f.kind;
            case 1, 2, 3, 4 -> f.abcd[what - 1] + 10000;
            case 5 -> loadedSlot(e);
            case 6 -> plays(f) ? 1 : 0;
            case 7 -> on(f) ? 1 : 0;
            case 8 -> f.start == null ? NONE : f.start;
            default -> OUTSIDE;
        };
    }

    int slots(int n) {
        if (!in(n, 1, 6)) {
            return OUTSIDE;
        }
        for (int k = n; k < 6; k++) {
            if (slotOf[k] != NONE) {
                return STATE;
            }
        }
        int was = slotCount;
        slotCount = n;
        return was;
    }

    int slot(int k) {
        return in(k, 0, slotCount - 1) ? slotOf[k] : UNKNOWN;
    }

    int load(int e) {
        if (unknown(e)) {
            return UNKNOWN;
        }
        if (loadedSlot(e) != NONE) {
            return loadedSlot(e);
        }
        for (int k = 0; k < slotCount; k++) {
            if (slotOf[k] == NONE) {
                slotOf[k] = e;
                return k;
            }
        }
        int loser = loser(true, 10);
        if (loser == NONE) {
            loser = loser(false, fx.get(e).number[9]);
        }
        if (loser == NONE) {
            return FULL;
        }
        int k = loadedSlot(loser);
        goes(loser);
        slotOf[k] = e;
        return k;
    }

    private int loser(boolean idle, int below) {
        for (int rank = 0; rank < below; rank++) {
            for (int e = 0; e < fx.size(); e++) {
                if (loadedSlot(e) != NONE && fx.get(e).number[9] == rank && plays(fx.get(e)) != idle) {
                    return e;
                }
            }
        }
        return NONE;
    }

    int unload(int e) {
        if (unknown(e)) {
            return UNKNOWN;
        }
        int k = loadedSlot(e);
        if (k == NONE) {
            return STATE;
        }
        goes(e);
        return k;
    }

    int play(int e) {
        if (unknown(e)) {
            return UNKNOWN;
        }
        if (lost) {
            return STATE;
        }
        int k = load(e);
        if (k >= 0) {
            fx.get(e).start = now;
        }
        return k;
    }

    int stop(int e) {
        if (unknown(e)) {
            return UNKNOWN;
        }
        int played = plays(fx.get(e)) ? 1 : 0;
        fx.get(e).start = null;
        return played;
    }

    int press(int b) {
        if (!in(b, 0, 3)) {
            return UNKNOWN;
        }
        if (pressed[b] != null || lost) {
            return STATE;
        }
        pressed[b] = now;
        int begun = 0;
        for (int e = 0; e < fx.size(); e++) {
            Fx f = fx.get(e);
            if (loadedSlot(e) != NONE && f.number[10] == b) {
                f.start = now;
                begun++;
                if (f.number[11] > 0) {
                    agains.add(new Again(b, e, f.number[11]));
                }
            }
        }
        return begun;
    }

    int free(int b) {
        if (!in(b, 0, 3)) {
            return UNKNOWN;
        }
        if (pressed[b] == null) {
            return STATE;
        }
        int held = now - pressed[b];
        pressed[b] = null;
        agains.removeIf(again -> again.button == b);
        return held;
    }

    int pass(int ms) {
        if (!in(ms, 1, 100000)) {
            return OUTSIDE;
        }
        if (now + ms > 10000000) {
            return STATE;
        }
        for (int i = 0; i < ms; i++) {
            tick();
        }
        return many(2);
    }

    int hello() {
        int was = lost ? 1 : 0;
        lost = false;
        lastHello = now;
        return was;
    }

    int watch(int v) {
        if (!in(v, 0, 10000)) {
            return OUTSIDE;
        }
        int was = watch;
        watch = v;
        lastHello = now;
        return was;
    }

    int master(int v) {
        if (!in(v, 0, 100)) {
            return OUTSIDE;
        }
        int was = master;
        master = v;
        return was;
    }

    private int env(Fx f) {
        int u = now - f.start - f.number[1];
        int rising = 100;
        if (u < f.number[2]) {
            rising = f.number[3] + (100 - f.number[3]) * u / f.number[2];
        }
        int falling = 100;
        if (f.number[0] != NONE) {
            int r = f.number[0] - u;
            if (r < f.number[4]) {
                falling = f.number[5] + (100 - f.number[5]) * r / f.number[4];
            }
        }
        return rising < falling ? rising : falling;
    }

    private static int limited(int v, int d) {
        return v > d ? d : v < -d ? -d : v;
    }

    private int value(Fx f, int axis) {
        int u = now - f.start - f.number[1];
        int a = f.abcd[0];
        int b = f.abcd[1];
        int c = f.abcd[2];
        int d = f.abcd[3];
        switch (f.kind) {
            case 0:
                return a * env(f) / 100;
            case 1: {
                int q = (u + d) % c;
                return (2 * q < c ? b + a : b - a) * env(f) / 100;
            }
            case 2: {
                int q = (u + d) % c;
                int v = 2 * q < c ? b + a * (4 * q - c) / c : b + a * (3 * c - 4 * q) / c;
                return v * env(f) / 100;
            }
            case 3: {
                int v = f.number[0] == NONE ? a : a + (b - a) * u / f.number[0];
                return v * env(f) / 100;
            }
            case 4:
            case 5: {
                int o = f.kind == 4 ? place[axis] - b : speed[axis];
                int size = o < 0 ? -o : o;
                if (size <= c) {
                    return 0;
                }
                int sign = o < 0 ? -1 : 1;
                return limited(-(a * ((size - c) * sign)) / (f.kind == 4 ? 100 : 1000), d);
            }
            default: {
                if (c == 0 && place[axis] - b > 0) {
                    return limited(-(a * (place[axis] - b)) / 100, d);
                }
                if (c == 1 && b - place[axis] > 0) {
                    return limited(a * (b - place[axis]) / 100, d);
                }
                return 0;
            }
        }
    }

    private int partNow(Fx f, int axis) {
        if (!on(f)) {
            return 0;
        }
        int gained = value(f, axis) * f.number[8] / 100;
        return gained * f.number[6 + axis] / 100;
    }

    int part(int e, int axis) {
        if (unknown(e) || !in(axis, 0, 1)) {
            return UNKNOWN;
        }
        return partNow(fx.get(e), axis) + 10000;
    }

    int envelope(int e) {
        if (unknown(e)) {
            return UNKNOWN;
        }
        Fx f = fx.get(e);
        return on(f) && f.kind < 4 ? env(f) : NONE;
    }

    private int raw(int axis) {
        int sum = 0;
        for (Fx f : fx) {
            sum += partNow(f, axis);
        }
        return sum;
    }

    int force(int axis, int what) {
        if (!in(axis, 0, 1)) {
            return UNKNOWN;
        }
        if (!in(what, 0, 1)) {
            return OUTSIDE;
        }
        return what == 0 ? raw(axis) + 100000 : limited(raw(axis), 1000) * master / 100 + 10000;
    }

    int rate(int v) {
        if (!in(v, 1, 1000)) {
            return OUTSIDE;
        }
        int was = rate;
        rate = v;
        return was;
    }

    int frame(int k) {
        return in(k, 0, 1000000) ? (int) (1000L * k / rate) : OUTSIDE;
    }

    int frames() {
        // Begins a little ahead of NOW, so that it needs no step for each frame since 0.
        long k = Math.max(0, (long) now * rate / 1000 - 5);
        while (1000L * k / rate <= now) {
            k++;
        }
        return (int) k;
    }

    int peak(int axis, int n, int what) {
        if (!in(axis, 0, 1)) {
            return UNKNOWN;
        }
        if (!in(n, 1, 2000) || !in(what, 0, 1)) {
            return OUTSIDE;
        }
        NaiveStick s = copy();
        int greatest = -1;
        int at = -1;
        for (int i = 0; i < n; i++) {
            int push = Math.abs(s.raw(axis));
            if (push > greatest) {
                greatest = push;
                at = i;
            }
            s.tick();
        }
        return what == 0 ? greatest : at;
    }

    int soLong(int n) {
        if (!in(n, 1, 2000)) {
            return OUTSIDE;
        }
        return copy().heldBack(n);
    }

    private int heldBack(int n) {
        int count = 0;
        for (int i = 0; i < n; i++) {
            if (Math.abs(raw(0)) > 1000 || Math.abs(raw(1)) > 1000) {
                count++;
            }
            tick();
        }
        return count;
    }

    int quiet(int n) {
        if (!in(n, 1, 400)) {
            return OUTSIDE;
        }
        int playing = 0;
        for (int e = 0; e < fx.size(); e++) {
            if (plays(fx.get(e))) {
                playing |= 1 << e;
            }
        }
        for (int size = 0; size <= 12; size++) {
            for (int set = 0; set < 4096; set++) {
                if (Integer.bitCount(set) == size && (set & ~playing) == 0 && isQuietWithout(set, n)) {
                    return set;
                }
            }
        }
        return NONE;
    }

    private boolean isQuietWithout(int set, int n) {
        NaiveStick s = copy();
        for (int e = 0; e < s.fx.size(); e++) {
            if ((set >> e & 1) == 1) {
                s.stop(e);
            }
        }
        return s.heldBack(n) == 0;
    }

    int many(int what) {
        int count = 0;
        switch (what) {
            case 0:
                return fx.size();
            case 1:
                for (int e = 0; e < fx.size(); e++) {
                    count += loadedSlot(e) == NONE ? 0 : 1;
                }
                return count;
            case 2:
                for (Fx f : fx) {
                    count += plays(f) ? 1 : 0;
                }
                return count;
            case 3:
                for (Fx f : fx) {
                    count += on(f) ? 1 : 0;
                }
                return count;
            case 4:
                return slotCount;
            case 5:
                for (Integer since : pressed) {
                    count += since == null ? 0 : 1;
                }
                return count;
            case 6:
                return now;
            case 7:
                return lost ? 1 : 0;
            case 8:
                return watch;
            case 9:
                return master;
            case 10:
                return rate;
            default:
                return OUTSIDE;
        }
    }
}
