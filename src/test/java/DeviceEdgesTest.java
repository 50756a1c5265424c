/**
 * The boundary cases of the devices, a sentence of the document at a time: the terms, and promises
 * 2 widen, 3 plug and 4 burn.
 */
public final class DeviceEdgesTest {
    private static final Due DUE = new Due();
    private static final int[] FAR_OUT = {Integer.MIN_VALUE, -256, 256, Integer.MAX_VALUE};
    private static final int RAM = 1;
    private static final int ROM = 2;
    private static final int BANKS = 3;
    private static final int SMALL_RAM = 4;

    public static void main(String[] args) {
        widenTakesSlots();
        widenOnceOnly();
        widenWithoutADevice();
        plugTakesSlots();
        plugTakesParts();
        plugTakesKinds();
        plugTakesBanks();
        plugLooksAtBanksForKind3Alone();
        plugNeedsThePart();
        plugNeedsAnEmptyPart();
        plugUntilAllIsFull();
        burnNeedsADevice();
        burnNeedsThePart();
        burnTakesAddressesOfRom();
        burnTakesPlacesOfBanks();
        burnLeavesTheWindows();
        burnTakesBytes();
        ramHas256Bytes();
        romHas256Bytes();
        romIsNotWritten();
        banksAreInWindows();
        windowsAtFirst();
        windowsAreSwitched();
        windowsAreSwitchedWithinThem();
        banksElsewhere();
        smallRamHas64Bytes();
        DUE.end();
    }

    private static void widenTakesSlots() {
        DUE.by("widen: IllegalArgumentException: there is none such");
        SlotScreen x = new SlotScreen();
        DUE.isArgumentFault("widen(-1)", () -> x.widen(-1));
        DUE.isArgumentFault("widen(4)", () -> x.widen(4));
        for (int no : FAR_OUT) {
            DUE.isArgumentFault("widen(" + no + ")", () -> x.widen(no));
        }
        for (int slot = 0; slot < 4; slot++) {
            int s = slot;
            DUE.is("secondary(" + s + ") before", x.secondary(s), SlotScreen.NONE);
            DUE.isTaken("widen(" + s + ")", () -> x.widen(s));
            DUE.is("secondary(" + s + ") behind", x.secondary(s), 0);
        }
        DUE.isArgumentFault("widen(4), all being wide", () -> x.widen(4));
    }

    private static void widenOnceOnly() {
        DUE.by("widen: IllegalStateException: it is wide");
        for (int slot = 0; slot < 4; slot++) {
            SlotScreen x = new SlotScreen();
            int s = slot;
            x.widen(s);
            x.out(2, 64 * s);
            x.write(255, 99);
            DUE.isStateFault("widen(" + s + ") again", () -> x.widen(s));
            DUE.is("its number", x.secondary(s), 99);
            x.plug(s, 3, RAM, 0);
            DUE.isStateFault("widen(" + s + "), with a device in part 3", () -> x.widen(s));
            DUE.is("its number", x.secondary(s), 99);
        }
    }

    private static void widenWithoutADevice() {
        DUE.by("widen: IllegalStateException: it .. has a device");
        for (int slot = 0; slot < 4; slot++) {
            for (int kind = 1; kind <= 4; kind++) {
                SlotScreen x = new SlotScreen();
                int s = slot;
                x.plug(s, 0, kind, 1);
                DUE.isStateFault("widen(" + s + ") with kind " + kind, () -> x.widen(s));
                DUE.is("it is plain still", x.secondary(s), SlotScreen.NONE);
                // The other slots have none.
                for (int i = 1; i < 4; i++) {
                    int other = (s + i) % 4;
                    DUE.isTaken("widen(" + other + ")", () -> x.widen(other));
                }
            }
        }
    }

    private static void plugTakesSlots() {
        DUE.by("plug: IllegalArgumentException: no such slot");
        SlotScreen x = new SlotScreen();
        DUE.isArgumentFault("plug(-1, 0, 1, 0)", () -> x.plug(-1, 0, RAM, 0));
        DUE.isArgumentFault("plug(4, 0, 1, 0)", () -> x.plug(4, 0, RAM, 0));
        for (int no : FAR_OUT) {
            DUE.isArgumentFault("plug(" + no + ", 0, 1, 0)", () -> x.plug(no, 0, RAM, 0));
        }
        for (int slot = 0; slot < 4; slot++) {
            int s = slot;
            DUE.is("slot " + s + " before", x.far(s, 0, 0), 255);
            DUE.isTaken("plug(" + s + ", 0, 1, 0)", () -> x.plug(s, 0, RAM, 0));
            DUE.is("slot " + s + " behind", x.far(s, 0, 0), 0);
        }
        // Where the slot is no slot, the part can't make it one.
        DUE.isArgumentFault("plug(-1, 3, 1, 0)", () -> x.plug(-1, 3, RAM, 0));
    }

    private static void plugTakesParts() {
        DUE.by("plug: IllegalArgumentException: .. part isn't 0 .. 3");
        SlotScreen x = new SlotScreen();
        x.widen(1);
        for (int slot = 0; slot < 2; slot++) {
            int s = slot;
            DUE.isArgumentFault("plug(" + s + ", -1, 1, 0)", () -> x.plug(s, -1, RAM, 0));
            DUE.isArgumentFault("plug(" + s + ", 4, 1, 0)", () -> x.plug(s, 4, RAM, 0));
            for (int no : FAR_OUT) {
                DUE.isArgumentFault("plug(" + s + ", " + no + ", 1, 0)", () -> x.plug(s, no, RAM, 0));
            }
        }
        for (int part = 0; part < 4; part++) {
            int p = part;
            DUE.is("part " + p + " before", x.far(1, p, 0), 255);
            DUE.isTaken("plug(1, " + p + ", 1, 0)", () -> x.plug(1, p, RAM, 0));
            DUE.is("part " + p + " behind", x.far(1, p, 0), 0);
        }
        for (int other = 0; other < 4; other += 2) {
            DUE.is("slot " + other, x.far(other, 0, 0), 255);
        }
    }

    private static void plugTakesKinds() {
        DUE.by("plug: IllegalArgumentException: no such .. kind");
        SlotScreen x = new SlotScreen();
        DUE.isArgumentFault("plug(0, 0, 0, 1)", () -> x.plug(0, 0, 0, 1));
        DUE.isArgumentFault("plug(0, 0, 5, 1)", () -> x.plug(0, 0, 5, 1));
        DUE.isArgumentFault("plug(0, 0, -1, 1)", () -> x.plug(0, 0, -1, 1));
        for (int no : FAR_OUT) {
            DUE.isArgumentFault("plug(0, 0, " + no + ", 1)", () -> x.plug(0, 0, no, 1));
        }
        DUE.is("nothing is there", x.far(0, 0, 64), 255);
        for (int kind = 1; kind <= 4; kind++) {
            int k = kind;
            DUE.isTaken("plug(" + (k - 1) + ", 0, " + k + ", 1)", () -> x.plug(k - 1, 0, k, 1));
            DUE.is("a device is there", x.far(k - 1, 0, 64), 0);
        }
        // A kind that is none is told of in a part that isn't there or is taken, too.
        DUE.isArgumentFault("plug(0, 0, 0, 1) where one is", () -> x.plug(0, 0, 0, 1));
        DUE.isArgumentFault("plug(0, 1, 5, 1) of a plain slot", () -> x.plug(0, 1, 5, 1));
    }

    private static void plugTakesBanks() {
        DUE.by("plug: IllegalArgumentException: .. or banks isn't 1 .. 8");
        SlotScreen x = new SlotScreen();
        DUE.isArgumentFault("plug(0, 0, 3, 0)", () -> x.plug(0, 0, BANKS, 0));
        DUE.isArgumentFault("plug(0, 0, 3, 9)", () -> x.plug(0, 0, BANKS, 9));
        DUE.isArgumentFault("plug(0, 0, 3, -1)", () -> x.plug(0, 0, BANKS, -1));
        for (int no : FAR_OUT) {
            DUE.isArgumentFault("plug(0, 0, 3, " + no + ")", () -> x.plug(0, 0, BANKS, no));
        }
        DUE.is("nothing is there", x.far(0, 0, 64), 255);
        for (int banks = 1; banks <= 8; banks++) {
            SlotScreen y = new SlotScreen();
            int b = banks;
            DUE.isTaken("plug(0, 0, 3, " + b + ")", () -> y.plug(0, 0, BANKS, b));
            DUE.is("BANKS are there", y.far(0, 0, 64), 0);
        }
        x.plug(0, 0, BANKS, 8);
        DUE.isArgumentFault("plug(0, 0, 3, 9) where one is", () -> x.plug(0, 0, BANKS, 9));
        DUE.isArgumentFault("plug(0, 1, 3, 0) of a plain slot", () -> x.plug(0, 1, BANKS, 0));
    }

    private static void plugLooksAtBanksForKind3Alone() {
        DUE.by("plug: banks is looked at for kind 3 alone");
        int[] kinds = {RAM, ROM, SMALL_RAM};
        int[] numbers = {Integer.MIN_VALUE, -1, 0, 1, 8, 9, Integer.MAX_VALUE};
        for (int kind : kinds) {
            for (int banks : numbers) {
                SlotScreen x = new SlotScreen();
                DUE.isTaken("plug(2, 0, " + kind + ", " + banks + ")", () -> x.plug(2, 0, kind, banks));
                x.out(2, 170);
                x.write(3, 6);
                DUE.is("kind " + kind + " at 3", x.read(3), kind == ROM ? 0 : 6);
                DUE.is("kind " + kind + " at 67", x.read(67), kind == SMALL_RAM ? 6 : 0);
            }
        }
    }

    private static void plugNeedsThePart() {
        DUE.by("plug: IllegalStateException: the slot hasn't that part");
        for (int slot = 0; slot < 4; slot++) {
            SlotScreen x = new SlotScreen();
            int s = slot;
            for (int part = 1; part < 4; part++) {
                int p = part;
                DUE.isStateFault("plug(" + s + ", " + p + ", 1, 0)", () -> x.plug(s, p, RAM, 0));
            }
            DUE.isTaken("widen(" + s + "), nothing being in it", () -> x.widen(s));
            for (int part = 1; part < 4; part++) {
                int p = part;
                DUE.isTaken("plug(" + s + ", " + p + ", 1, 0), wide", () -> x.plug(s, p, RAM, 0));
            }
            SlotScreen y = new SlotScreen();
            DUE.isTaken("plug(" + s + ", 0, 1, 0)", () -> y.plug(s, 0, RAM, 0));
            DUE.isStateFault("plug(" + s + ", 1, 1, 0) with part 0 taken", () -> y.plug(s, 1, RAM, 0));
        }
    }

    private static void plugNeedsAnEmptyPart() {
        DUE.by("plug: IllegalStateException: .. or there is a device in it");
        for (int first = 1; first <= 4; first++) {
            for (int second = 1; second <= 4; second++) {
                SlotScreen x = new SlotScreen();
                int k = second;
                x.widen(2);
                x.plug(2, 1, first, 8);
                DUE.isStateFault("kind " + k + " where kind " + first + " is", () -> x.plug(2, 1, k, 8));
                DUE.isTaken("part 0", () -> x.plug(2, 0, k, 8));
                DUE.isTaken("part 2", () -> x.plug(2, 2, k, 8));
                x.plug(3, 0, first, 8);
                DUE.isStateFault("plain, kind " + k + " where kind " + first + " is", () -> x.plug(3, 0, k, 8));
            }
        }
    }

    private static void plugUntilAllIsFull() {
        DUE.by("In each part there is a DEVICE, or none");
        for (int kind = 1; kind <= 4; kind++) {
            SlotScreen x = new SlotScreen();
            for (int slot = 0; slot < 4; slot++) {
                x.widen(slot);
                for (int part = 0; part < 4; part++) {
                    x.plug(slot, part, kind, 1);
                }
            }
            for (int n = 0; n < 16; n++) {
                int slot = n / 4;
                int part = n % 4;
                int k = kind;
                DUE.isStateFault("one more in " + slot + " " + part, () -> x.plug(slot, part, k, 1));
                x.out(2, 85 * slot);
                x.write(255, 85 * part);
                x.burn(slot, part, 0, n + 1);
                x.write(kind == BANKS ? 64 : 0, n + 1);
            }
            // Each has bytes of its own.
            for (int n = 0; n < 16; n++) {
                DUE.is("kind " + kind + " in " + n / 4 + " " + n % 4,
                        x.far(n / 4, n % 4, kind == BANKS ? 64 : 0), n + 1);
            }
        }
    }

    private static void burnNeedsADevice() {
        DUE.by("burn: false if there is no such device in the part of the slot");
        SlotScreen x = new SlotScreen();
        for (int slot = 0; slot < 4; slot++) {
            DUE.is("no device in " + slot, x.burn(slot, 0, 64, 1), false);
        }
        int[] kinds = {RAM, SMALL_RAM, ROM, BANKS};
        for (int slot = 0; slot < 4; slot++) {
            x.plug(slot, 0, kinds[slot], 8);
            boolean burns = kinds[slot] == ROM || kinds[slot] == BANKS;
            DUE.is("kind " + kinds[slot] + " at 0", x.burn(slot, 0, 0, 1), burns);
            DUE.is("kind " + kinds[slot] + " at 255", x.burn(slot, 0, 255, 1), burns);
            DUE.is("its byte", x.far(slot, 0, kinds[slot] == BANKS ? 64 : 0), burns ? 1 : 0);
        }
    }

    private static void burnNeedsThePart() {
        DUE.by("burn: .. in the part of the slot");
        SlotScreen x = new SlotScreen();
        x.widen(1);
        x.plug(0, 0, ROM, 0);
        x.plug(1, 3, ROM, 0);
        x.plug(2, 0, ROM, 0);
        DUE.is("the plain slot's part 0", x.burn(0, 0, 0, 1), true);
        DUE.is("the wide slot's part 3", x.burn(1, 3, 0, 1), true);
        for (int part = 1; part < 4; part++) {
            DUE.is("plain part " + part, x.burn(0, part, 0, 2), false);
            DUE.is("wide part " + (part - 1), x.burn(1, part - 1, 0, 2), false);
        }
        // Four parts further on lies the next slot's part 0: that is not the same place.
        DUE.is("burn(0, 4, ..)", x.burn(0, 4, 0, 2), false);
        DUE.is("burn(1, 4, ..)", x.burn(1, 4, 0, 2), false);
        DUE.is("burn(2, -1, ..)", x.burn(2, -1, 0, 2), false);
        DUE.is("burn(1, -4, ..)", x.burn(1, -4, 0, 2), false);
        DUE.is("burn(-1, 0, ..)", x.burn(-1, 0, 0, 2), false);
        DUE.is("burn(-1, 4, ..)", x.burn(-1, 4, 0, 2), false);
        DUE.is("burn(4, 0, ..)", x.burn(4, 0, 0, 2), false);
        DUE.is("burn(4, -8, ..)", x.burn(4, -8, 0, 2), false);
        for (int no : FAR_OUT) {
            DUE.is("burn(" + no + ", 0, ..)", x.burn(no, 0, 0, 2), false);
            DUE.is("burn(1, " + no + ", ..)", x.burn(1, no, 0, 2), false);
        }
        DUE.is("slot 0", x.far(0, 0, 0), 1);
        DUE.is("slot 1, part 3", x.far(1, 3, 0), 1);
        DUE.is("slot 2", x.far(2, 0, 0), 0);
    }

    private static void burnTakesAddressesOfRom() {
        DUE.by("burn: Puts a byte into ROM at an address .. false if there is .. no such place in it");
        SlotScreen x = new SlotScreen();
        x.plug(0, 0, ROM, 0);
        DUE.is("burn at 0", x.burn(0, 0, 0, 1), true);
        DUE.is("burn at 255", x.burn(0, 0, 255, 2), true);
        DUE.is("burn at -1", x.burn(0, 0, -1, 3), false);
        DUE.is("burn at 256", x.burn(0, 0, 256, 3), false);
        for (int no : FAR_OUT) {
            DUE.is("burn at " + no, x.burn(0, 0, no, 3), false);
        }
        for (int a = 0; a < 256; a++) {
            DUE.is("read(" + a + ")", x.read(a), a == 0 ? 1 : a == 255 ? 2 : 0);
        }
    }

    private static void burnTakesPlacesOfBanks() {
        DUE.by("burn: .. into BANKS at a place, from the first byte of bank 0 on; false if .. no such place in it");
        for (int banks = 1; banks <= 8; banks++) {
            SlotScreen x = new SlotScreen();
            x.plug(0, 0, BANKS, banks);
            DUE.is("burn at 0 of " + banks, x.burn(0, 0, 0, 1), true);
            DUE.is("burn at the last of " + banks, x.burn(0, 0, 32 * banks - 1, 2), true);
            DUE.is("burn behind " + banks, x.burn(0, 0, 32 * banks, 3), false);
            DUE.is("burn before " + banks, x.burn(0, 0, -1, 3), false);
            for (int no : FAR_OUT) {
                DUE.is("burn at " + no + " of " + banks, x.burn(0, 0, no, 3), false);
            }
            for (int b = 0; b < banks; b++) {
                x.write(64, b);
                for (int i = 0; i < 32; i++) {
                    int place = 32 * b + i;
                    int want = place == 0 ? 1 : place == 32 * banks - 1 ? 2 : 0;
                    DUE.is("place " + place + " of " + banks, x.read(64 + i), want);
                }
            }
        }
        SlotScreen y = new SlotScreen();
        y.plug(0, 0, BANKS, 8);
        for (int place = 0; place < 256; place += 5) {
            y.burn(0, 0, place, 255 - place);
        }
        for (int place = 0; place < 256; place += 5) {
            y.write(160, place / 32);
            DUE.is("place " + place, y.read(160 + place % 32), 255 - place);
        }
    }

    private static void burnLeavesTheWindows() {
        DUE.by("burn: Puts a byte .. into BANKS at a place");
        for (int w = 0; w < 4; w++) {
            SlotScreen x = withBanks(8);
            x.write(64 + 32 * w, 7);
            for (int place = 0; place < 256; place += 17) {
                DUE.is("burn at " + place, x.burn(0, 0, place, 200), true);
            }
            // Of its own bytes only the last one of bank 7 has been burnt over.
            DUE.is("window " + w, x.read(64 + 32 * w), 8);
            DUE.is("its last byte", x.read(95 + 32 * w), 200);
            for (int other = 0; other < 4; other++) {
                if (other != w) {
                    DUE.is("window " + other, x.read(64 + 32 * other), other == 0 ? 200 : other + 1);
                    DUE.is("its last byte", x.read(95 + 32 * other), other + 101);
                }
            }
        }
    }

    private static void burnTakesBytes() {
        DUE.by("burn: false if .. v isn't 0 .. 255");
        int[] kinds = {ROM, BANKS};
        for (int kind : kinds) {
            SlotScreen x = new SlotScreen();
            x.plug(0, 0, kind, 4);
            DUE.is("burn 255", x.burn(0, 0, 64, 255), true);
            DUE.is("its byte", x.read(kind == ROM ? 64 : 128), 255);
            DUE.is("burn 0", x.burn(0, 0, 64, 0), true);
            DUE.is("its byte", x.read(kind == ROM ? 64 : 128), 0);
            DUE.is("burn -1", x.burn(0, 0, 64, -1), false);
            DUE.is("burn 256", x.burn(0, 0, 64, 256), false);
            for (int no : FAR_OUT) {
                DUE.is("burn " + no, x.burn(0, 0, 64, no), false);
            }
            DUE.is("its byte", x.read(kind == ROM ? 64 : 128), 0);
        }
    }

    private static void ramHas256Bytes() {
        DUE.by("1 RAM: 256 bytes, 0 at first, at their addresses");
        SlotScreen x = new SlotScreen();
        x.plug(0, 0, RAM, 0);
        for (int a = 0; a < 256; a++) {
            DUE.is("at first at " + a, x.read(a), 0);
        }
        int[] edges = {0, 1, 63, 64, 127, 128, 191, 192, 254, 255};
        for (int at : edges) {
            SlotScreen y = new SlotScreen();
            y.plug(0, 0, RAM, 0);
            y.write(at, 255);
            for (int a = 0; a < 256; a++) {
                DUE.is("write at " + at + ", read at " + a, y.read(a), a == at ? 255 : 0);
            }
        }
    }

    private static void romHas256Bytes() {
        DUE.by("2 ROM: 256 bytes likewise");
        SlotScreen x = new SlotScreen();
        x.plug(0, 0, ROM, 0);
        for (int a = 0; a < 256; a++) {
            DUE.is("at first at " + a, x.read(a), 0);
        }
        int[] edges = {0, 1, 63, 64, 127, 128, 191, 192, 254, 255};
        for (int at : edges) {
            SlotScreen y = new SlotScreen();
            y.plug(0, 0, ROM, 0);
            y.burn(0, 0, at, 255);
            for (int a = 0; a < 256; a++) {
                DUE.is("burn at " + at + ", read at " + a, y.read(a), a == at ? 255 : 0);
            }
        }
    }

    private static void romIsNotWritten() {
        DUE.by("2 ROM: .. writing does nothing");
        SlotScreen x = new SlotScreen();
        x.plug(0, 0, ROM, 0);
        for (int a = 0; a < 256; a += 5) {
            x.burn(0, 0, a, a);
        }
        for (int a = 0; a < 256; a += 5) {
            x.write(a, 255 - a);
        }
        for (int a = 0; a < 256; a += 5) {
            DUE.is("read(" + a + ")", x.read(a), a);
        }
    }

    /** BANKS in slot 0, the first byte of bank b being b + 1 and its last one b + 101. */
    private static SlotScreen withBanks(int banks) {
        SlotScreen x = new SlotScreen();
        x.plug(0, 0, BANKS, banks);
        for (int b = 0; b < banks; b++) {
            x.burn(0, 0, 32 * b, b + 1);
            x.burn(0, 0, 32 * b + 31, b + 101);
        }
        return x;
    }

    private static void banksAreInWindows() {
        DUE.by("3 BANKS: .. addresses 64 .. 191 are four WINDOWS of 32");
        SlotScreen x = withBanks(8);
        for (int a = 0; a < 256; a++) {
            int want = 255;
            if (a >= 64 && a <= 191) {
                int w = (a - 64) / 32;
                want = a % 32 == 0 ? w + 1 : a % 32 == 31 ? w + 101 : 0;
            }
            DUE.is("read(" + a + ")", x.read(a), want);
        }
    }

    private static void windowsAtFirst() {
        DUE.by("3 BANKS: .. window w shows a bank, at first w modulo the number of banks");
        for (int banks = 1; banks <= 8; banks++) {
            SlotScreen x = withBanks(banks);
            for (int w = 0; w < 4; w++) {
                int shown = w;
                while (shown >= banks) {
                    shown -= banks;
                }
                DUE.is("window " + w + " of " + banks, x.read(64 + 32 * w), shown + 1);
                DUE.is("its last byte", x.read(95 + 32 * w), shown + 101);
            }
        }
    }

    private static void windowsAreSwitched() {
        DUE.by("3 BANKS: .. writing v at an address in a window makes it show the bank v modulo their number");
        for (int banks = 1; banks <= 8; banks++) {
            for (int from = 0; from < 256; from += 128) {
                SlotScreen x = withBanks(banks);
                for (int v = from; v < from + 128; v++) {
                    int w = v / 3 % 4;
                    x.write(64 + 32 * w, v);
                    DUE.is(v + " in window " + w + " of " + banks, x.read(64 + 32 * w), v - v / banks * banks + 1);
                }
            }
        }
    }

    private static void windowsAreSwitchedWithinThem() {
        DUE.by("3 BANKS: .. writing v at an address in a window makes it show the bank");
        int[] at = {63, 64, 65, 94, 95, 96, 127, 128, 159, 160, 190, 191, 192};
        for (int a : at) {
            SlotScreen x = withBanks(8);
            x.write(a, 7);
            for (int w = 0; w < 4; w++) {
                boolean within = a >= 64 + 32 * w && a <= 95 + 32 * w;
                DUE.is("write at " + a + ", window " + w, x.read(64 + 32 * w), within ? 8 : w + 1);
                DUE.is("its last byte", x.read(95 + 32 * w), within ? 108 : w + 101);
                DUE.is("its second byte", x.read(65 + 32 * w), 0);
            }
            // The bytes of the banks are as they were: all eight in turn.
            for (int b = 0; b < 8; b++) {
                x.write(64, b);
                DUE.is("first of bank " + b, x.read(64), b + 1);
                DUE.is("second of bank " + b, x.read(65), 0);
                DUE.is("last of bank " + b, x.read(95), b + 101);
            }
        }
        // Two windows may show one bank, and each BANKS has windows of its own.
        SlotScreen y = withBanks(3);
        y.plug(1, 0, BANKS, 3);
        y.burn(1, 0, 0, 55);
        y.write(160, 1);
        DUE.is("window 1", y.read(96), 2);
        DUE.is("window 3", y.read(160), 2);
        DUE.is("window 3 of the other", y.far(1, 0, 160), 55);
    }

    private static void banksElsewhere() {
        DUE.by("3 BANKS: .. at other addresses 255 is read, and writing does nothing");
        int[] others = {0, 31, 32, 63, 192, 223, 224, 254, 255};
        SlotScreen x = withBanks(8);
        for (int a : others) {
            DUE.is("read(" + a + ")", x.read(a), 255);
            x.write(a, 6);
            DUE.is("read(" + a + ") behind a write", x.read(a), 255);
            for (int w = 0; w < 4; w++) {
                DUE.is("window " + w, x.read(64 + 32 * w), w + 1);
            }
        }
    }

    private static void smallRamHas64Bytes() {
        DUE.by("4 SMALL RAM: 64 bytes, 0 at first, the same ones in each page");
        SlotScreen x = new SlotScreen();
        x.plug(0, 0, SMALL_RAM, 0);
        for (int a = 0; a < 256; a++) {
            DUE.is("at first at " + a, x.read(a), 0);
        }
        int[] edges = {0, 1, 31, 32, 62, 63, 64, 127, 128, 191, 192, 254, 255};
        for (int at : edges) {
            SlotScreen y = new SlotScreen();
            y.plug(0, 0, SMALL_RAM, 0);
            y.write(at, 255);
            for (int a = 0; a < 256; a++) {
                DUE.is("write at " + at + ", read at " + a, y.read(a), a % 64 == at % 64 ? 255 : 0);
            }
        }
    }
}
