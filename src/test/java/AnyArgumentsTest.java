/**
 * Mixed calls with right and wrong arguments: each throws only what its promise names, answers only
 * what its promise allows, and gives the same answer on a second object with the same calls.
 */
public final class AnyArgumentsTest {
    private static final Due DUE = new Due();
    private static final int RUNS = 3000;
    private static final int CALLS = 512;
    private static final int ARGUMENT_FAULT = -100;
    private static final int STATE_FAULT = -200;

    public static void main(String[] args) {
        for (int run = 0; run < RUNS; run++) {
            Dice dice = new Dice(run);
            SlotScreen one = new SlotScreen();
            SlotScreen two = new SlotScreen();
            for (int i = 0; i < CALLS; i++) {
                int which = dice.below(14);
                int[] a = {dice.near(0, 3), dice.near(0, 3), dice.near(1, 4), dice.near(1, 8),
                    dice.near(0, 255), dice.near(0, 255), dice.near(0, 2), dice.near(0, 511), dice.near(0, 11)};
                int got = answer(one, which, a);
                DUE.is("run " + run + " call " + i + " of kind " + which, got, answer(two, which, a));
                check("run " + run + " call " + i, which, got);
            }
        }
        DUE.end();
    }

    private static int answer(SlotScreen x, int which, int[] a) {
        try {
            return call(x, which, a);
        } catch (IllegalArgumentException e) {
            return ARGUMENT_FAULT;
        } catch (IllegalStateException e) {
            return STATE_FAULT;
        }
    }

    private static int call(SlotScreen x, int which, int[] a) {
        switch (which) {
            case 0:
                x.widen(a[0]);
                return 0;
            case 1:
                x.plug(a[0], a[1], a[2], a[3]);
                return 0;
            case 2:
                return x.burn(a[0], a[1], a[4], a[5]) ? 1 : 0;
            case 3:
                return x.read(a[4]);
            case 4:
                x.write(a[4], a[5]);
                return 0;
            case 5:
                return x.far(a[0], a[1], a[4]);
            case 6:
                return x.in(a[6]);
            case 7:
                return x.out(a[6], a[4]) ? 1 : 0;
            case 8:
                return x.scan();
            case 9:
                return x.pixel(a[4] % 70, a[5] % 40);
            case 10:
                return x.video(a[7]);
            case 11:
                return x.chip(a[8]);
            case 12:
                return x.secondary(a[0]);
            default:
                return x.calls() ? 1 : 0;
        }
    }

    private static void check(String at, int which, int got) {
        if (got == ARGUMENT_FAULT) {
            DUE.is(at + " may refuse an argument, kind " + which, which == 0 || which == 1 || which >= 3 && which <= 5, true);
        } else if (got == STATE_FAULT) {
            DUE.is(at + " may refuse a state, kind " + which, which <= 1, true);
        } else {
            int low = which >= 9 && which <= 12 ? SlotScreen.NONE : 0;
            int[] highs = {0, 0, 1, 255, 0, 255, 255, 1, 31, 15, 255, 511, 255, 1};
            DUE.is(at + " answers " + got + ", kind " + which, got >= low && got <= highs[which], true);
        }
    }
}
