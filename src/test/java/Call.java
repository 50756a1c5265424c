import java.util.Arrays;

/** A call of the face with its arguments, and its answer as a number. */
final class Call {
    static final int ARGUMENT_FAULT = -100;
    static final int STATE_FAULT = -200;
    /** What a call answers that is void, and what a boolean one does. */
    static final int DONE = 0;
    static final int FALSE = 0;
    static final int TRUE = 1;

    private final String name;
    private final int[] a;

    Call(String name, int... arguments) {
        this.name = name;
        a = arguments;
    }

    String name() {
        return name;
    }

    int argument(int i) {
        return a[i];
    }

    int on(SlotScreen x) {
        try {
            return plainlyOn(x);
        } catch (IllegalArgumentException e) {
            return ARGUMENT_FAULT;
        } catch (IllegalStateException e) {
            return STATE_FAULT;
        }
    }

    private int plainlyOn(SlotScreen x) {
        switch (name) {
            case "widen":
                x.widen(a[0]);
                return DONE;
            case "plug":
                x.plug(a[0], a[1], a[2], a[3]);
                return DONE;
            case "burn":
                return x.burn(a[0], a[1], a[2], a[3]) ? TRUE : FALSE;
            case "read":
                return x.read(a[0]);
            case "write":
                x.write(a[0], a[1]);
                return DONE;
            case "far":
                return x.far(a[0], a[1], a[2]);
            case "in":
                return x.in(a[0]);
            case "out":
                return x.out(a[0], a[1]) ? TRUE : FALSE;
            case "scan":
                return x.scan();
            case "pixel":
                return x.pixel(a[0], a[1]);
            case "video":
                return x.video(a[0]);
            case "chip":
                return x.chip(a[0]);
            case "secondary":
                return x.secondary(a[0]);
            case "calls":
                return x.calls() ? TRUE : FALSE;
            default:
                throw new AssertionError("no such call: " + name);
        }
    }

    @Override
    public String toString() {
        return name + Arrays.toString(a).replace('[', '(').replace(']', ')');
    }
}
