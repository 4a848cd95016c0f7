import java.util.Arrays;

/** One call with its arguments, so that the same call can be made on several objects. */
final class Call {
    private final String name;
    private final int[] args;

    Call(String name, int... args) {
        this.name = name;
        this.args = args;
    }

    int on(PushStick x) {
        switch (name) {
            case "effect":
                return x.effect(args[0], args[1], args[2], args[3], args[4]);
            case "set":
                return x.set(args[0], args[1], args[2]);
            case "drop":
                return x.drop();
            case "hand":
                return x.hand(args[0], args[1]);
            case "ofAxis":
                return x.ofAxis(args[0], args[1]);
            case "ofEffect":
                return x.ofEffect(args[0], args[1]);
            case "slots":
                return x.slots(args[0]);
            case "slot":
                return x.slot(args[0]);
            case "load":
                return x.load(args[0]);
            case "unload":
                return x.unload(args[0]);
            case "play":
                return x.play(args[0]);
            case "stop":
                return x.stop(args[0]);
            case "press":
                return x.press(args[0]);
            case "free":
                return x.free(args[0]);
            case "pass":
                return x.pass(args[0]);
            case "hello":
                return x.hello();
            case "watch":
                return x.watch(args[0]);
            case "master":
                return x.master(args[0]);
            default:
                return asked(x);
        }
    }

    private int asked(PushStick x) {
        switch (name) {
            case "part":
                return x.part(args[0], args[1]);
            case "envelope":
                return x.envelope(args[0]);
            case "force":
                return x.force(args[0], args[1]);
            case "rate":
                return x.rate(args[0]);
            case "frame":
                return x.frame(args[0]);
            case "frames":
                return x.frames();
            case "peak":
                return x.peak(args[0], args[1], args[2]);
            case "soLong":
                return x.soLong(args[0]);
            case "quiet":
                return x.quiet(args[0]);
            case "many":
                return x.many(args[0]);
            default:
                throw new IllegalArgumentException("no such call: " + name);
        }
    }

    @Override
    public String toString() {
        String list = Arrays.toString(args);
        return name + "(" + list.substring(1, list.length() - 1) + ")";
    }
}
