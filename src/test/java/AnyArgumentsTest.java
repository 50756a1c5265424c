/** All promises: mixed calls with right and wrong arguments, each answer compared with the model's. */
public final class AnyArgumentsTest {
    private static final Due DUE = new Due();
    private static final int RUNS = 4000;

    private final Dice dice;
    private final Twin twin;

    private AnyArgumentsTest(int run) {
        dice = new Dice(run);
        twin = new Twin(DUE, "run " + run);
    }

    public static void main(String[] args) {
        for (int run = 0; run < RUNS; run++) {
            new AnyArgumentsTest(run).play();
        }
        DUE.end();
    }

    private void play() {
        while (twin.hasCallsLeft()) {
            switch (dice.below(5)) {
                case 0:
                    build();
                    break;
                case 1:
                case 2:
                    useMemory();
                    break;
                case 3:
                    usePorts();
                    break;
                default:
                    look();
                    break;
            }
        }
    }

    private int slot() {
        return dice.near(0, 3);
    }

    private int address() {
        int[] edges = {0, 63, 64, 95, 96, 127, 128, 159, 160, 191, 192, 254, 255};
        return dice.below(2) == 0 ? edges[dice.below(edges.length)] : dice.near(0, 255);
    }

    private int value() {
        return dice.near(0, 255);
    }

    private void build() {
        switch (dice.below(8)) {
            case 0:
                twin.call("widen", slot());
                break;
            case 1:
            case 2:
            case 3:
                twin.call("plug", slot(), slot(), dice.near(1, 4), dice.near(1, 8));
                break;
            default:
                twin.call("burn", slot(), slot(), address(), value());
                break;
        }
    }

    private void useMemory() {
        switch (dice.below(5)) {
            case 0:
                twin.call("out", 2, value());
                break;
            case 1:
            case 2:
                twin.call("write", address(), value());
                break;
            case 3:
                twin.call("read", address());
                break;
            default:
                twin.call("far", slot(), slot(), address());
                break;
        }
    }

    private void usePorts() {
        switch (dice.below(8)) {
            case 0:
                twin.call("scan");
                break;
            case 1:
                twin.register(dice.below(8), dice.below(256));
                break;
            case 2:
                twin.pointAt(dice.below(512));
                break;
            case 3:
            case 4:
                twin.call("in", dice.near(0, 2));
                break;
            default:
                twin.call("out", dice.near(0, 2), value());
                break;
        }
    }

    private void look() {
        switch (dice.below(6)) {
            case 0:
                twin.call("pixel", dice.near(0, 63), dice.near(0, 31));
                break;
            case 1:
                twin.call("video", dice.near(0, 511));
                break;
            case 2:
            case 3:
                twin.call("chip", dice.near(0, 11));
                break;
            case 4:
                twin.call("secondary", slot());
                break;
            default:
                twin.call("calls");
                break;
        }
    }
}
