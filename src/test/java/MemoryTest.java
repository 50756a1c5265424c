/** Promises 5, 6, 7 and 14: read, write, far and secondary. */
public final class MemoryTest {
    private static final Due DUE = new Due();
    private static final int[] NO_BYTES = {-1, 256, 257, Integer.MIN_VALUE, Integer.MAX_VALUE};

    public static void main(String[] args) {
        readAndWriteRefuse();
        ram();
        rom();
        banksSwitch();
        banksElsewhere();
        smallRam();
        pagesBySlots();
        pagesByParts();
        secondaryAtAddress255();
        farLeavesNumbersAlone();
        farAtAddress255();
        farOfPlainSlots();
        farRefuses();
        secondaryOfSlots();
        DUE.end();
    }

    private static void readAndWriteRefuse() {
        SlotScreen x = new SlotScreen();
        x.plug(0, 0, 1, 0);
        for (int no : NO_BYTES) {
            DUE.isArgumentFault("read(" + no + ")", () -> x.read(no));
            DUE.isArgumentFault("write(" + no + ", 0)", () -> x.write(no, 0));
            DUE.isArgumentFault("write(0, " + no + ")", () -> x.write(0, no));
            DUE.isArgumentFault("write(255, " + no + ")", () -> x.write(255, no));
            // Where nothing is, v is looked at all the same.
            x.out(2, 255);
            DUE.isArgumentFault("write(9, " + no + ") to nothing", () -> x.write(9, no));
            x.out(2, 0);
        }
        DUE.is("read(0)", x.read(0), 0);
        DUE.is("read(255)", x.read(255), 0);
    }

    private static void ram() {
        SlotScreen x = new SlotScreen();
        x.plug(0, 0, 1, 0);
        for (int a = 0; a < 256; a++) {
            x.write(a, a ^ 165);
        }
        for (int a = 0; a < 255; a++) {
            DUE.is("RAM at " + a, x.read(a), a ^ 165);
        }
        SlotScreen y = new SlotScreen();
        y.plug(0, 0, 1, 0);
        y.write(255, 3);
        DUE.is("RAM at 255 of a plain slot", y.read(255), 3);
        DUE.is("RAM at 254", y.read(254), 0);
        DUE.is("RAM at 63", y.read(63), 0);
    }

    private static void rom() {
        SlotScreen x = new SlotScreen();
        x.plug(0, 0, 2, 0);
        x.burn(0, 0, 17, 44);
        x.write(17, 1);
        x.write(18, 1);
        DUE.is("ROM at 17", x.read(17), 44);
        DUE.is("ROM at 18", x.read(18), 0);
        DUE.is("ROM at 81", x.read(81), 0);
    }

    private static SlotScreen withBanks(int banks) {
        SlotScreen x = new SlotScreen();
        x.plug(0, 0, 3, banks);
        for (int b = 0; b < banks; b++) {
            x.burn(0, 0, 32 * b, b + 1);
            x.burn(0, 0, 32 * b + 31, b + 101);
        }
        return x;
    }

    private static void banksSwitch() {
        int[] values = {0, 1, 2, 3, 4, 5, 6, 7, 8, 9, 100, 254, 255};
        for (int banks = 1; banks <= 8; banks++) {
            for (int w = 0; w < 4; w++) {
                SlotScreen x = withBanks(banks);
                int other = (w + 1) % 4;
                for (int v : values) {
                    x.write(64 + 32 * w + v % 32, v);
                    DUE.is(v + " in window " + w, x.read(64 + 32 * w), v % banks + 1);
                    DUE.is(v + " at its end " + w, x.read(95 + 32 * w), v % banks + 101);
                    DUE.is("the other " + other, x.read(64 + 32 * other), other % banks + 1);
                }
            }
        }
    }

    private static void banksElsewhere() {
        SlotScreen x = withBanks(5);
        int[] outside = {0, 31, 32, 63, 192, 200, 254, 255};
        for (int a : outside) {
            DUE.is("BANKS at " + a, x.read(a), 255);
            x.write(a, 4);
            DUE.is("BANKS at " + a + " again", x.read(a), 255);
        }
        for (int w = 0; w < 4; w++) {
            DUE.is("window " + w, x.read(64 + 32 * w), w + 1);
        }
    }

    private static void smallRam() {
        SlotScreen x = new SlotScreen();
        x.plug(0, 0, 4, 0);
        DUE.is("small RAM at first", x.read(70), 0);
        for (int page = 0; page < 4; page++) {
            x.write(64 * page, 10 + page);
            x.write(64 * page + 63, 20 + page);
            for (int q = 0; q < 4; q++) {
                DUE.is("page " + q, x.read(64 * q), 10 + page);
                DUE.is("its end", x.read(64 * q + 63), 20 + page);
                DUE.is("its middle", x.read(64 * q + 32), 0);
            }
        }
    }

    private static void pagesBySlots() {
        SlotScreen x = new SlotScreen();
        for (int slot = 0; slot < 4; slot++) {
            x.plug(slot, 0, 2, 0);
            for (int page = 0; page < 4; page++) {
                x.burn(slot, 0, 64 * page, 10 * slot + page);
                x.burn(slot, 0, 64 * page + 63, 10 * slot + page + 100);
            }
        }
        int[] primaries = {0, 27, 228, 85, 170, 255, 64, 3, 48, 12, 192};
        for (int primary : primaries) {
            x.out(2, primary);
            for (int page = 0; page < 4; page++) {
                int slot = primary / (1 << 2 * page) % 4;
                DUE.is(primary + " page " + page, x.read(64 * page), 10 * slot + page);
                DUE.is(primary + " end of " + page, x.read(64 * page + 63), 10 * slot + page + 100);
            }
        }
    }

    private static void pagesByParts() {
        SlotScreen x = new SlotScreen();
        x.widen(2);
        for (int part = 0; part < 4; part++) {
            x.plug(2, part, 1, 0);
        }
        x.out(2, 170);
        int[] secondaries = {0, 27, 228, 85, 170, 255};
        for (int number : secondaries) {
            x.write(255, number);
            for (int page = 0; page < 4; page++) {
                int part = number / (1 << 2 * page) % 4;
                x.write(64 * page + 1, number / 2 + page);
                DUE.is(number + " page " + page, x.read(64 * page + 1), number / 2 + page);
                DUE.is("its part " + part, x.far(2, part, 64 * page + 1), number / 2 + page);
            }
        }
        // The last two numbers had page 0 in part 2 and in part 3.
        DUE.is("part 2", x.far(2, 2, 1), 85);
        DUE.is("part 3", x.far(2, 3, 1), 127);
    }

    private static void secondaryAtAddress255() {
        SlotScreen x = new SlotScreen();
        x.widen(1);
        x.plug(1, 0, 1, 0);
        x.plug(0, 0, 1, 0);
        x.write(255, 12);
        DUE.is("plain slot 0 at 255", x.read(255), 12);
        DUE.is("secondary(1)", x.secondary(1), 0);
        x.out(2, 64);
        DUE.is("wide slot 1 at 255", x.read(255), 255);
        x.write(255, 201);
        DUE.is("its number", x.secondary(1), 201);
        DUE.is("its contrary", x.read(255), 54);
        x.write(255, 0);
        x.write(254, 5);
        DUE.is("254 is the device's", x.read(254), 5);
        DUE.is("the number is as it was", x.secondary(1), 0);
        // Page 3 alone decides, and the device keeps its own byte there.
        x.out(2, 63);
        x.write(255, 77);
        DUE.is("slot 0 again", x.read(255), 77);
        DUE.is("the number still", x.secondary(1), 0);
        // A wide slot without any device answers likewise.
        x.widen(3);
        x.out(2, 192);
        x.write(255, 255);
        DUE.is("contrary of 255", x.read(255), 0);
        DUE.is("secondary(3)", x.secondary(3), 255);
        DUE.is("secondary(1)", x.secondary(1), 0);
        DUE.is("254 of nothing", x.read(254), 255);
    }

    private static SlotScreen withNumbers() {
        SlotScreen x = new SlotScreen();
        x.widen(1);
        x.widen(2);
        for (int part = 0; part < 4; part++) {
            x.plug(1, part, 2, 0);
            for (int page = 0; page < 4; page++) {
                x.burn(1, part, 64 * page + 7, 10 * part + page);
            }
        }
        x.plug(2, 3, 3, 3);
        x.burn(2, 3, 64, 99);
        x.out(2, 64);
        x.write(255, 156);
        x.out(2, 128);
        x.write(255, 99);
        x.out(2, 0);
        return x;
    }

    private static void farLeavesNumbersAlone() {
        SlotScreen x = withNumbers();
        x.out(1, 5);
        for (int part = 0; part < 4; part++) {
            for (int page = 0; page < 4; page++) {
                DUE.is("far " + part + " " + page, x.far(1, part, 64 * page + 7), 10 * part + page);
            }
        }
        DUE.is("far of a window", x.far(2, 3, 128), 99);
        DUE.is("far of nothing", x.far(2, 2, 128), 255);
        DUE.is("far of a plain slot without a device", x.far(3, 0, 128), 255);
        DUE.is("in(2)", x.in(2), 0);
        DUE.is("secondary(1)", x.secondary(1), 156);
        DUE.is("secondary(2)", x.secondary(2), 99);
        DUE.is("chip(11)", x.chip(11), 5);
    }

    private static void farAtAddress255() {
        SlotScreen x = withNumbers();
        for (int part = 0; part < 4; part++) {
            DUE.is("far(1, " + part + ", 255)", x.far(1, part, 255), 255 - (156 % 64 + 64 * part));
            DUE.is("far(2, " + part + ", 255)", x.far(2, part, 255), 255 - (99 % 64 + 64 * part));
        }
        DUE.is("secondary(1)", x.secondary(1), 156);
        DUE.is("secondary(2)", x.secondary(2), 99);
        x.out(2, 64);
        DUE.is("read(255)", x.read(255), 99);
    }

    private static void farOfPlainSlots() {
        SlotScreen x = new SlotScreen();
        x.plug(3, 0, 2, 0);
        x.burn(3, 0, 255, 31);
        x.burn(3, 0, 0, 32);
        for (int part = 0; part < 4; part++) {
            DUE.is("far(3, " + part + ", 255)", x.far(3, part, 255), 31);
            DUE.is("far(3, " + part + ", 0)", x.far(3, part, 0), 32);
        }
    }

    private static void farRefuses() {
        SlotScreen x = withNumbers();
        int[] no = {-1, 4, Integer.MIN_VALUE, Integer.MAX_VALUE};
        for (int n : no) {
            DUE.isArgumentFault("far slot " + n, () -> x.far(n, 0, 0));
            DUE.isArgumentFault("far part " + n, () -> x.far(1, n, 0));
            // Of a plain slot the part isn't looked at, but it is still one of 0 .. 3.
            DUE.isArgumentFault("far plain part " + n, () -> x.far(0, n, 0));
        }
        for (int n : NO_BYTES) {
            DUE.isArgumentFault("far address " + n, () -> x.far(1, 0, n));
        }
    }

    private static void secondaryOfSlots() {
        SlotScreen x = withNumbers();
        int[] none = {-1, 0, 3, 4, Integer.MIN_VALUE, Integer.MAX_VALUE};
        for (int slot : none) {
            DUE.is("secondary(" + slot + ")", x.secondary(slot), SlotScreen.NONE);
        }
        DUE.is("secondary(1)", x.secondary(1), 156);
        DUE.is("secondary(2)", x.secondary(2), 99);
    }
}
