import java.util.Arrays;
import java.util.function.Consumer;

/**
 * A call that is refused, or that asks for what isn't there, leaves everything that other calls
 * show as it was; so does one that only looks. On a new object and on used ones.
 */
public final class RefusedCallsTest {
    private static final Due DUE = new Due();
    private static final int[] NO_SLOTS = {-1, 4, Integer.MIN_VALUE, Integer.MAX_VALUE};
    private static final int[] NO_BYTES = {-1, 256, Integer.MIN_VALUE, Integer.MAX_VALUE};
    private static final int FULL_STATUS = 128 + 64 + 32 + 4;

    private final String name;
    private final Consumer<SlotScreen> past;
    private final int[] before;

    private RefusedCallsTest(String name, Consumer<SlotScreen> past) {
        this.name = name;
        this.past = past;
        before = View.of(past);
    }

    public static void main(String[] args) {
        viewsTellChangesApart();
        new RefusedCallsTest("new", x -> { }).onANewObject();
        RefusedCallsTest none = new RefusedCallsTest("none waits", RefusedCallsTest::noneWaits);
        none.leaves(SlotScreen.NONE, "chip", 11);
        onAUsedObject(none);
        RefusedCallsTest one = new RefusedCallsTest("a byte waits", RefusedCallsTest::aByteWaits);
        one.leaves(135, "chip", 11);
        onAUsedObject(one);
        DUE.end();
    }

    private static void onAUsedObject(RefusedCallsTest test) {
        test.widen();
        test.plugWithWrongArguments();
        test.plugInWrongStates();
        test.burn();
        test.memory();
        test.ports();
        test.whatIsNotThere();
        test.looks();
    }

    private static void aByteWaits(SlotScreen x) {
        noneWaits(x);
        x.out(1, 135);
    }

    /**
     * Slot 0 is plain with a ROM, 1 wide with all four kinds, 2 plain with nothing, 3 wide with a
     * small RAM in part 2; all bits of the status are noted; line 5 is next.
     */
    private static void noneWaits(SlotScreen x) {
        x.plug(0, 0, 2, 0);
        x.widen(1);
        x.widen(3);
        for (int part = 0; part < 4; part++) {
            x.plug(1, part, part + 1, 5);
        }
        x.plug(3, 2, 4, 0);
        x.burn(0, 0, 0, 11);
        x.burn(0, 0, 255, 12);
        for (int b = 0; b < 5; b++) {
            x.burn(1, 2, 32 * b, 20 + b);
        }
        x.out(2, 85);
        x.write(255, 170);
        x.write(96, 4);
        x.write(160, 2);
        x.write(255, 27);
        x.write(64, 33);
        x.write(192, 31);
        x.out(2, 192);
        x.write(255, 228);
        x.out(2, 27 + 64);
        withSprites(x);
        Video.scan(x, 37);
        Video.bytes(x, 510, 41, 42);
        x.out(1, 254);
        x.out(1, 1);
    }

    private static void withSprites(SlotScreen x) {
        Video.register(x, 1, 96);
        Video.register(x, 3, 20);
        Video.register(x, 5, 8);
        Video.register(x, 6, 1);
        Video.register(x, 7, 6);
        Video.bytes(x, 80, 0x34);
        Video.bytes(x, 256, 255, 0, 0, 1, 255, 4, 0, 2, 255, 8, 0, 3, 2, 60, 0, 4, 2, 40, 0, 5, 2, 50, 0, 8, 208);
        Video.bytes(x, 128, 255, 129, 255);
    }

    /** Without this a view that shows too little would let everything pass. */
    private static void viewsTellChangesApart() {
        Call[] changes = {
            new Call("write", 192, 30), new Call("write", 255, 28), new Call("out", 2, 0),
            new Call("burn", 0, 0, 9, 1), new Call("burn", 1, 2, 159, 1), new Call("widen", 2),
            new Call("plug", 2, 0, 2, 0), new Call("plug", 3, 0, 2, 0), new Call("plug", 3, 3, 3, 2),
            new Call("in", 0), new Call("in", 1), new Call("out", 0, 9), new Call("out", 1, 9), new Call("scan")};
        int[] before = View.of(RefusedCallsTest::aByteWaits);
        for (Call change : changes) {
            int[] behind = View.of(x -> {
                aByteWaits(x);
                change.on(x);
            });
            DUE.is(change + " is seen", Arrays.equals(before, behind), false);
        }
    }

    private void leaves(int want, String callName, int... arguments) {
        Call call = new Call(callName, arguments);
        SlotScreen once = new SlotScreen();
        past.accept(once);
        DUE.is(call + " [" + name + "]", call.on(once), want);
        int[] behind = View.of(x -> {
            past.accept(x);
            call.on(x);
        });
        DUE.is(call + " leaves all as it was [" + name + "]", Arrays.equals(before, behind), true);
    }

    private void onANewObject() {
        for (int slot = 0; slot < 4; slot++) {
            leaves(Call.FALSE, "burn", slot, 0, 0, 1);
            leaves(Call.STATE_FAULT, "plug", slot, 1, 1, 0);
            leaves(Call.STATE_FAULT, "plug", slot, 3, 3, 8);
            leaves(Call.ARGUMENT_FAULT, "plug", slot, 4, 1, 0);
            leaves(Call.ARGUMENT_FAULT, "plug", slot, 0, 3, 0);
            leaves(Call.ARGUMENT_FAULT, "plug", slot, 0, 3, 9);
            leaves(Call.ARGUMENT_FAULT, "plug", slot, 0, 5, 1);
        }
        for (int port = -1; port <= 3; port++) {
            leaves(Call.FALSE, "out", port, 256);
        }
        // Writing where there is no device does nothing.
        for (int a = 0; a < 256; a += 51) {
            leaves(Call.DONE, "write", a, 9);
        }
    }

    private void widen() {
        for (int no : NO_SLOTS) {
            leaves(Call.ARGUMENT_FAULT, "widen", no);
        }
        leaves(Call.STATE_FAULT, "widen", 0);
        leaves(Call.STATE_FAULT, "widen", 1);
        leaves(Call.STATE_FAULT, "widen", 3);
    }

    private void plugWithWrongArguments() {
        for (int no : NO_SLOTS) {
            leaves(Call.ARGUMENT_FAULT, "plug", no, 0, 1, 0);
            leaves(Call.ARGUMENT_FAULT, "plug", 2, no, 1, 0);
            leaves(Call.ARGUMENT_FAULT, "plug", 3, no, 1, 0);
        }
        int[] noKinds = {0, 5, Integer.MIN_VALUE, Integer.MAX_VALUE};
        for (int no : noKinds) {
            leaves(Call.ARGUMENT_FAULT, "plug", 2, 0, no, 1);
            leaves(Call.ARGUMENT_FAULT, "plug", 1, 0, no, 1);
        }
        int[] noBanks = {0, 9, Integer.MIN_VALUE, Integer.MAX_VALUE};
        for (int no : noBanks) {
            leaves(Call.ARGUMENT_FAULT, "plug", 2, 0, 3, no);
            leaves(Call.ARGUMENT_FAULT, "plug", 1, 2, 3, no);
        }
    }

    private void plugInWrongStates() {
        for (int kind = 1; kind <= 4; kind++) {
            for (int part = 1; part < 4; part++) {
                leaves(Call.STATE_FAULT, "plug", 0, part, kind, 8);
                leaves(Call.STATE_FAULT, "plug", 2, part, kind, 8);
            }
            for (int part = 0; part < 4; part++) {
                leaves(Call.STATE_FAULT, "plug", 1, part, kind, 8);
            }
            leaves(Call.STATE_FAULT, "plug", 0, 0, kind, 8);
            leaves(Call.STATE_FAULT, "plug", 3, 2, kind, 8);
        }
    }

    private void burn() {
        for (int no : NO_SLOTS) {
            leaves(Call.FALSE, "burn", no, 0, 0, 1);
            leaves(Call.FALSE, "burn", 0, no, 0, 1);
            leaves(Call.FALSE, "burn", 1, no, 0, 1);
        }
        for (int no : NO_BYTES) {
            leaves(Call.FALSE, "burn", 0, 0, 0, no);
            leaves(Call.FALSE, "burn", 1, 2, 0, no);
            leaves(Call.FALSE, "burn", 0, 0, no, 1);
            leaves(Call.FALSE, "burn", 1, 2, no, 1);
        }
        leaves(Call.FALSE, "burn", 1, 2, 160, 1);
        for (int part = 1; part < 4; part++) {
            leaves(Call.FALSE, "burn", 0, part, 0, 1);
        }
        leaves(Call.FALSE, "burn", 1, 0, 0, 1);
        leaves(Call.FALSE, "burn", 1, 3, 0, 1);
        leaves(Call.FALSE, "burn", 2, 0, 0, 1);
        leaves(Call.FALSE, "burn", 3, 0, 0, 1);
        leaves(Call.FALSE, "burn", 3, 2, 0, 1);
    }

    private void memory() {
        for (int no : NO_BYTES) {
            leaves(Call.ARGUMENT_FAULT, "read", no);
            leaves(Call.ARGUMENT_FAULT, "write", no, 1);
            leaves(Call.ARGUMENT_FAULT, "write", 0, no);
            leaves(Call.ARGUMENT_FAULT, "write", 192, no);
            leaves(Call.ARGUMENT_FAULT, "write", 255, no);
            leaves(Call.ARGUMENT_FAULT, "far", 1, 0, no);
        }
        for (int no : NO_SLOTS) {
            leaves(Call.ARGUMENT_FAULT, "far", no, 0, 0);
            leaves(Call.ARGUMENT_FAULT, "far", 0, no, 0);
            leaves(Call.ARGUMENT_FAULT, "far", 1, no, 255);
        }
    }

    private void ports() {
        for (int no : NO_BYTES) {
            for (int port = -1; port <= 3; port++) {
                leaves(Call.FALSE, "out", port, no);
            }
        }
        int[] noPorts = {-1, 3, 256, Integer.MIN_VALUE, Integer.MAX_VALUE};
        for (int no : noPorts) {
            leaves(255, "in", no);
            leaves(Call.TRUE, "out", no, 0);
            leaves(Call.TRUE, "out", no, 255);
        }
    }

    private void whatIsNotThere() {
        for (int no : NO_SLOTS) {
            leaves(SlotScreen.NONE, "secondary", no);
        }
        leaves(SlotScreen.NONE, "secondary", 0);
        leaves(SlotScreen.NONE, "secondary", 2);
        int[] nowhere = {-1, 512, Integer.MIN_VALUE, Integer.MAX_VALUE};
        for (int no : nowhere) {
            leaves(SlotScreen.NONE, "pixel", no, 0);
            leaves(SlotScreen.NONE, "pixel", 0, no);
            leaves(SlotScreen.NONE, "video", no);
            leaves(SlotScreen.NONE, "chip", no);
        }
        leaves(SlotScreen.NONE, "pixel", 64, 0);
        leaves(SlotScreen.NONE, "pixel", 0, 32);
        leaves(SlotScreen.NONE, "chip", 12);
    }

    private void looks() {
        leaves(FULL_STATUS, "chip", 8);
        leaves(0, "chip", 0);
        leaves(511, "chip", 9);
        leaves(41, "chip", 10);
        leaves(42, "video", 511);
        leaves(Call.TRUE, "calls");
        leaves(27 + 64, "in", 2);
        leaves(255 - 27, "read", 255);
        leaves(27, "secondary", 1);
        leaves(255 - (27 + 3 * 64), "far", 1, 3, 255);
        leaves(24, "far", 1, 2, 96);
        leaves(4, "pixel", 63, 31);
    }
}
