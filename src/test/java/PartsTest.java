/** Promises 2, 3 and 4: widen, plug and burn. */
public final class PartsTest {
    private static final Due DUE = new Due();
    private static final int[] NO_SLOTS = {-1, 4, 5, 256, Integer.MIN_VALUE, Integer.MAX_VALUE};

    public static void main(String[] args) {
        widenRefuses();
        widenGivesParts();
        plugRefusesArguments();
        plugRefusesStates();
        plugLooksAtBanksForKind3Alone();
        burnRom();
        burnBanks();
        burnRefuses();
        DUE.end();
    }

    private static void widenRefuses() {
        SlotScreen x = new SlotScreen();
        for (int slot : NO_SLOTS) {
            DUE.isArgumentFault("widen(" + slot + ")", () -> x.widen(slot));
        }
        x.widen(2);
        DUE.isStateFault("widen(2) again", () -> x.widen(2));
        for (int kind = 1; kind <= 4; kind++) {
            int slot = kind - 1;
            SlotScreen y = new SlotScreen();
            y.plug(slot, 0, kind, 1);
            DUE.isStateFault("widen with a device of kind " + kind, () -> y.widen(slot));
            DUE.is("secondary behind it", y.secondary(slot), SlotScreen.NONE);
            y.widen((slot + 1) % 4);
        }
        x.plug(2, 1, 1, 0);
        DUE.isStateFault("widen(2), wide and with a device", () -> x.widen(2));
    }

    private static void widenGivesParts() {
        SlotScreen x = new SlotScreen();
        x.widen(3);
        for (int part = 0; part < 4; part++) {
            x.plug(3, part, 2, 0);
            DUE.is("burn part " + part, x.burn(3, part, 10, 20 + part), true);
        }
        for (int part = 0; part < 4; part++) {
            DUE.is("far part " + part, x.far(3, part, 10), 20 + part);
        }
        DUE.isStateFault("plug of plain 2, part 3", () -> x.plug(2, 3, 1, 0));
    }

    private static void plugRefusesArguments() {
        SlotScreen x = new SlotScreen();
        for (int slot : NO_SLOTS) {
            DUE.isArgumentFault("plug slot " + slot, () -> x.plug(slot, 0, 1, 0));
        }
        for (int part : NO_SLOTS) {
            DUE.isArgumentFault("plug part " + part, () -> x.plug(0, part, 1, 0));
        }
        int[] noKinds = {0, -1, 5, 6, Integer.MIN_VALUE, Integer.MAX_VALUE};
        for (int kind : noKinds) {
            DUE.isArgumentFault("plug kind " + kind, () -> x.plug(0, 0, kind, 1));
        }
        int[] noBanks = {0, -1, 9, Integer.MIN_VALUE, Integer.MAX_VALUE};
        for (int banks : noBanks) {
            DUE.isArgumentFault("plug banks " + banks, () -> x.plug(0, 0, 3, banks));
        }
        // What is refused leaves nothing behind.
        x.plug(0, 0, 3, 8);
        // A wrong argument is told before a wrong state.
        DUE.isArgumentFault("plug kind 5 into a taken part", () -> x.plug(0, 0, 5, 1));
        DUE.isArgumentFault("plug 9 banks into a taken part", () -> x.plug(0, 0, 3, 9));
        DUE.isArgumentFault("plug kind 0 into a missing part", () -> x.plug(1, 2, 0, 1));
        DUE.isArgumentFault("plug 0 banks into a missing part", () -> x.plug(1, 2, 3, 0));
    }

    private static void plugRefusesStates() {
        SlotScreen x = new SlotScreen();
        for (int part = 1; part < 4; part++) {
            int p = part;
            DUE.isStateFault("plug plain part " + p, () -> x.plug(1, p, 1, 0));
        }
        for (int kind = 1; kind <= 4; kind++) {
            int k = kind;
            x.plug(k - 1, 0, k, 2);
            DUE.isStateFault("plug twice, kind " + k, () -> x.plug(k - 1, 0, 5 - k, 2));
        }
        SlotScreen y = new SlotScreen();
        y.widen(1);
        y.plug(1, 3, 1, 0);
        DUE.isStateFault("plug a wide part twice", () -> y.plug(1, 3, 2, 0));
        y.plug(1, 2, 2, 0);
        // Each part has the device of its own, and a refused one changes none.
        y.out(2, 1);
        y.write(5, 9);
        DUE.is("part 0 is still empty", y.read(5), 255);
        DUE.is("burn of RAM", y.burn(1, 3, 0, 1), false);
    }

    private static void plugLooksAtBanksForKind3Alone() {
        int[] odd = {0, -1, 9, Integer.MIN_VALUE, Integer.MAX_VALUE};
        for (int banks : odd) {
            SlotScreen x = new SlotScreen();
            x.plug(0, 0, 1, banks);
            x.plug(1, 0, 2, banks);
            x.plug(2, 0, 4, banks);
            DUE.is("burn ROM", x.burn(1, 0, 255, 3), true);
        }
    }

    private static void burnRom() {
        SlotScreen x = new SlotScreen();
        x.plug(0, 0, 2, 0);
        int[] places = {0, 63, 64, 191, 192, 255};
        for (int place : places) {
            DUE.is("ROM at first", x.read(place), 0);
            DUE.is("burn(" + place + ")", x.burn(0, 0, place, 255 - place), true);
            DUE.is("read(" + place + ")", x.read(place), 255 - place);
        }
        DUE.is("burn over it", x.burn(0, 0, 64, 7), true);
        DUE.is("read(64)", x.read(64), 7);
        DUE.is("burn(256)", x.burn(0, 0, 256, 7), false);
        DUE.is("burn(-1)", x.burn(0, 0, -1, 7), false);
        DUE.is("burn(min)", x.burn(0, 0, Integer.MIN_VALUE, 7), false);
        DUE.is("burn(max)", x.burn(0, 0, Integer.MAX_VALUE, 7), false);
        DUE.is("read(0)", x.read(0), 255);
    }

    private static void burnBanks() {
        for (int banks = 1; banks <= 8; banks++) {
            SlotScreen x = new SlotScreen();
            x.widen(1);
            x.plug(1, 2, 3, banks);
            for (int b = 0; b < banks; b++) {
                DUE.is("first of bank " + b, x.burn(1, 2, 32 * b, 100 + b), true);
                DUE.is("last of bank " + b, x.burn(1, 2, 32 * b + 31, 200 + b), true);
            }
            DUE.is("behind " + banks, x.burn(1, 2, 32 * banks, 1), false);
            DUE.is("before", x.burn(1, 2, -1, 1), false);
            DUE.is("at max", x.burn(1, 2, Integer.MAX_VALUE, 1), false);
            DUE.is("at min", x.burn(1, 2, Integer.MIN_VALUE, 1), false);
            for (int w = 0; w < 4; w++) {
                DUE.is("window " + w + " of " + banks, x.far(1, 2, 64 + 32 * w), 100 + w % banks);
                DUE.is("its end", x.far(1, 2, 95 + 32 * w), 200 + w % banks);
                DUE.is("its middle", x.far(1, 2, 70 + 32 * w), 0);
            }
        }
    }

    private static void burnRefuses() {
        SlotScreen x = new SlotScreen();
        x.plug(0, 0, 1, 0);
        x.plug(1, 0, 4, 0);
        x.plug(2, 0, 2, 0);
        x.widen(3);
        x.plug(3, 3, 3, 4);
        DUE.is("burn RAM", x.burn(0, 0, 0, 1), false);
        DUE.is("RAM behind it", x.far(0, 0, 0), 0);
        DUE.is("burn small RAM", x.burn(1, 0, 0, 1), false);
        DUE.is("small RAM behind it", x.far(1, 0, 0), 0);
        DUE.is("burn an empty part", x.burn(3, 0, 0, 1), false);
        // A plain slot has part 0 alone; burn looks at the part.
        for (int part = 1; part < 4; part++) {
            DUE.is("burn plain part " + part, x.burn(2, part, 0, 1), false);
        }
        DUE.is("ROM behind it", x.far(2, 0, 0), 0);
        for (int no : NO_SLOTS) {
            DUE.is("burn slot " + no, x.burn(no, 0, 0, 1), false);
            DUE.is("burn part " + no, x.burn(3, no, 0, 1), false);
        }
        // Numbers that would meet another part's device if they were only added up.
        DUE.is("burn(4, -8, ..)", x.burn(4, -8, 0, 1), false);
        DUE.is("burn(1, 4, ..)", x.burn(1, 4, 0, 1), false);
        int[] noBytes = {-1, 256, Integer.MIN_VALUE, Integer.MAX_VALUE};
        for (int v : noBytes) {
            DUE.is("burn ROM with " + v, x.burn(2, 0, 0, v), false);
            DUE.is("burn BANKS with " + v, x.burn(3, 3, 0, v), false);
        }
        DUE.is("ROM in the end", x.far(2, 0, 0), 0);
        DUE.is("burn 0", x.burn(2, 0, 0, 0), true);
        DUE.is("burn 255", x.burn(2, 0, 0, 255), true);
        DUE.is("read 255", x.far(2, 0, 0), 255);
    }
}
