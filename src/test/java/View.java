import java.util.ArrayList;
import java.util.List;
import java.util.function.Consumer;

/**
 * Everything that calls show of an object with a certain past. Since an object has but 512 calls,
 * each view is taken from many objects that had the same past.
 */
final class View {
    /** A past has at most so many calls, and the rest is left for looking. */
    static final int PAST = 200;
    private static final int LOOKS = 512 - PAST;

    /** Calls that leave an object as it was. */
    private static final List<Call> STILL = new ArrayList<>();
    /** Runs of calls that change an object, each for an object of its own. */
    private static final List<List<Call>> RUNS = List.of(
            scans(), data(), control(), plugs(), widensAndPlugs(), burns(), writes());

    static {
        lookAtMemory();
        lookAtChip();
        lookAtScreen();
    }

    private View() {
    }

    /** The answers of all looks, in one row. */
    static int[] of(Consumer<SlotScreen> past) {
        List<Integer> answers = new ArrayList<>();
        for (int from = 0; from < STILL.size(); from += LOOKS) {
            ask(past, STILL.subList(from, Math.min(from + LOOKS, STILL.size())), answers);
        }
        for (List<Call> run : RUNS) {
            ask(past, run, answers);
        }
        return answers.stream().mapToInt(Integer::intValue).toArray();
    }

    private static void ask(Consumer<SlotScreen> past, List<Call> looks, List<Integer> answers) {
        if (looks.size() > LOOKS) {
            throw new AssertionError("too many looks: " + looks.size());
        }
        SlotScreen x = new SlotScreen();
        past.accept(x);
        for (Call look : looks) {
            answers.add(look.on(x));
        }
    }

    private static void lookAtMemory() {
        for (int a = 0; a < 256; a++) {
            STILL.add(new Call("read", a));
        }
        for (int slot = 0; slot < 4; slot++) {
            STILL.add(new Call("secondary", slot));
            for (int part = 0; part < 4; part++) {
                for (int a = 0; a < 256; a++) {
                    STILL.add(new Call("far", slot, part, a));
                }
            }
        }
        STILL.add(new Call("in", 2));
    }

    private static void lookAtChip() {
        for (int place = 0; place < 512; place++) {
            STILL.add(new Call("video", place));
        }
        STILL.addAll(chip());
        STILL.add(new Call("calls"));
    }

    private static List<Call> chip() {
        List<Call> run = new ArrayList<>();
        for (int what = 0; what <= 11; what++) {
            run.add(new Call("chip", what));
        }
        return run;
    }

    private static void lookAtScreen() {
        for (int y = 0; y < 32; y++) {
            for (int x = 0; x < 64; x++) {
                STILL.add(new Call("pixel", x, y));
            }
        }
    }

    private static List<Call> scans() {
        List<Call> run = new ArrayList<>();
        for (int i = 0; i < 34; i++) {
            run.add(new Call("scan"));
            run.add(new Call("chip", 8));
            for (int x = 0; x < 64; x += 13) {
                run.add(new Call("pixel", x, i % 32));
            }
        }
        return run;
    }

    private static List<Call> data() {
        List<Call> run = new ArrayList<>();
        for (int i = 0; i < 3; i++) {
            run.add(new Call("in", 0));
            run.add(new Call("chip", 9));
        }
        run.add(new Call("in", 1));
        run.add(new Call("in", 1));
        run.add(new Call("out", 0, 99));
        run.addAll(chip());
        return run;
    }

    private static List<Call> control() {
        List<Call> run = new ArrayList<>();
        run.add(new Call("out", 1, 130));
        run.addAll(chip());
        run.add(new Call("out", 1, 131));
        run.addAll(chip());
        return run;
    }

    private static List<Call> plugs() {
        List<Call> run = new ArrayList<>();
        for (int slot = 0; slot < 4; slot++) {
            for (int part = 0; part < 4; part++) {
                run.add(new Call("plug", slot, part, 1, 0));
                run.add(new Call("far", slot, part, 0));
            }
        }
        return run;
    }

    private static List<Call> widensAndPlugs() {
        List<Call> run = new ArrayList<>();
        for (int slot = 0; slot < 4; slot++) {
            run.add(new Call("widen", slot));
            run.add(new Call("secondary", slot));
        }
        run.addAll(plugs());
        return run;
    }

    private static List<Call> burns() {
        List<Call> run = new ArrayList<>();
        int[] places = {0, 31, 32, 96, 160, 254, 255};
        for (int slot = 0; slot < 4; slot++) {
            for (int part = 0; part < 4; part++) {
                for (int place : places) {
                    run.add(new Call("burn", slot, part, place, 200));
                }
                run.add(new Call("far", slot, part, 64));
                run.add(new Call("far", slot, part, 254));
            }
        }
        return run;
    }

    private static List<Call> writes() {
        List<Call> run = new ArrayList<>();
        for (int a = 0; a < 256; a += 15) {
            run.add(new Call("write", a, 3));
            run.add(new Call("read", a));
            for (int slot = 0; slot < 4; slot++) {
                run.add(new Call("secondary", slot));
            }
        }
        return run;
    }
}
