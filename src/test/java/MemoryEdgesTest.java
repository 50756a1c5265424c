/**
 * The boundary cases of memory, pages, slots and parts, a sentence of the document at a time:
 * the terms, and promises 5 read, 6 write, 7 far and 14 secondary.
 */
public final class MemoryEdgesTest {
    private static final Due DUE = new Due();
    private static final int[] NO_ADDRESSES = {-1, 256, Integer.MIN_VALUE, Integer.MAX_VALUE};
    private static final int[] NO_SLOTS = {-1, 4, Integer.MIN_VALUE, Integer.MAX_VALUE};
    /** The first and the last address of each page, but for 255, which is another matter. */
    private static final int[] PAGE_EDGES = {0, 63, 64, 127, 128, 191, 192, 254};
    private static final int RAM = 1;
    private static final int ROM = 2;
    private static final int BANKS = 3;
    private static final int SMALL_RAM = 4;

    public static void main(String[] args) {
        readTakesAddresses();
        writeTakesAddresses();
        writeTakesBytes();
        pagesAreOf64();
        primaryHasTwoBitsAPage();
        allSlotsArePlainAtFirst();
        secondaryHasTwoBitsAPage();
        secondaryOfAPlainSlot();
        numbersAreZeroAtFirst();
        nothingInAPlainSlot();
        nothingInAPart();
        contraryIsRead();
        writingSetsTheNumber();
        only255IsTheNumber();
        onlyPage3Decides();
        onlyAWideSlotHasIt();
        farIsWhatReadWouldBe();
        farLeavesTheNumbers();
        farAt255();
        farOfAPlainSlot();
        farRefuses();
        secondaryAnswers();
        DUE.end();
    }

    private static void readTakesAddresses() {
        DUE.by("read: IllegalArgumentException: there is no such address");
        SlotScreen x = new SlotScreen();
        x.plug(0, 0, RAM, 0);
        x.write(0, 10);
        x.write(255, 20);
        DUE.is("read(0)", x.read(0), 10);
        DUE.is("read(255)", x.read(255), 20);
        for (int no : NO_ADDRESSES) {
            DUE.isArgumentFault("read(" + no + ")", () -> x.read(no));
        }
        SlotScreen empty = new SlotScreen();
        DUE.is("read(0) of nothing", empty.read(0), 255);
        DUE.is("read(255) of nothing", empty.read(255), 255);
        for (int no : NO_ADDRESSES) {
            DUE.isArgumentFault("read(" + no + ") of nothing", () -> empty.read(no));
        }
    }

    private static void writeTakesAddresses() {
        DUE.by("write: IllegalArgumentException: there is no such address");
        SlotScreen x = new SlotScreen();
        x.plug(0, 0, RAM, 0);
        DUE.isTaken("write(0, 1)", () -> x.write(0, 1));
        DUE.isTaken("write(255, 2)", () -> x.write(255, 2));
        for (int no : NO_ADDRESSES) {
            DUE.isArgumentFault("write(" + no + ", 3)", () -> x.write(no, 3));
        }
        DUE.is("read(0)", x.read(0), 1);
        DUE.is("read(255)", x.read(255), 2);
    }

    private static void writeTakesBytes() {
        DUE.by("write: IllegalArgumentException: .. or v isn't 0 .. 255");
        SlotScreen x = new SlotScreen();
        x.plug(0, 0, RAM, 0);
        x.plug(1, 0, ROM, 0);
        x.widen(3);
        DUE.isTaken("write(7, 255)", () -> x.write(7, 255));
        DUE.is("read(7)", x.read(7), 255);
        DUE.isTaken("write(7, 0)", () -> x.write(7, 0));
        DUE.is("read(7)", x.read(7), 0);
        // RAM, ROM, nothing, and a wide slot's number: each looks at v before it does anything.
        for (int slot = 0; slot < 4; slot++) {
            x.out(2, 85 * slot);
            for (int no : NO_ADDRESSES) {
                DUE.isArgumentFault("write(7, " + no + ") in slot " + slot, () -> x.write(7, no));
                DUE.isArgumentFault("write(255, " + no + ") in slot " + slot, () -> x.write(255, no));
            }
        }
        DUE.is("the number of slot 3", x.secondary(3), 0);
    }

    private static void pagesAreOf64() {
        DUE.by("MEMORY has addresses 0 .. 255, in PAGES 0 .. 3 of 64");
        for (int page = 0; page < 4; page++) {
            SlotScreen x = new SlotScreen();
            x.plug(1, 0, RAM, 0);
            x.out(2, 1 << 2 * page);
            for (int a = 0; a < 256; a++) {
                boolean has = a >= 64 * page && a <= 64 * page + 63;
                DUE.is("page " + page + " at " + a, x.read(a), has ? 0 : 255);
            }
        }
    }

    private static void primaryHasTwoBitsAPage() {
        DUE.by("The PRIMARY number (0 .. 255) says in which slot page p is: its bits 2 p and 2 p + 1");
        for (int from = 0; from < 256; from += 32) {
            SlotScreen x = new SlotScreen();
            for (int slot = 0; slot < 4; slot++) {
                x.plug(slot, 0, ROM, 0);
                for (int a : PAGE_EDGES) {
                    x.burn(slot, 0, a, 50 * slot + a / 8);
                }
            }
            for (int number = from; number < from + 32; number++) {
                x.out(2, number);
                for (int a : PAGE_EDGES) {
                    DUE.is(number + " at " + a, x.read(a), 50 * digit(number, a / 64) + a / 8);
                }
            }
        }
    }

    /** A digit of a number with base 4, the last being digit 0. */
    private static int digit(int number, int which) {
        int rest = number;
        for (int i = 0; i < which; i++) {
            rest /= 4;
        }
        return rest % 4;
    }

    private static void allSlotsArePlainAtFirst() {
        DUE.by("each is plain, with the only PART 0, or WIDE, with parts 0 .. 3; all are plain at first");
        for (int slot = 0; slot < 4; slot++) {
            SlotScreen x = new SlotScreen();
            int s = slot;
            DUE.is("secondary(" + s + ")", x.secondary(s), SlotScreen.NONE);
            DUE.isStateFault("plug(" + s + ", 1, ..)", () -> x.plug(s, 1, RAM, 0));
            DUE.isStateFault("plug(" + s + ", 3, ..)", () -> x.plug(s, 3, RAM, 0));
            x.widen(s);
            for (int part = 0; part < 4; part++) {
                int p = part;
                DUE.isTaken("plug(" + s + ", " + p + ", ..)", () -> x.plug(s, p, RAM, 0));
            }
            for (int other = 0; other < 4; other++) {
                if (other != s) {
                    DUE.is("secondary(" + other + ")", x.secondary(other), SlotScreen.NONE);
                }
            }
        }
    }

    private static void secondaryHasTwoBitsAPage() {
        DUE.by("a SECONDARY number, which says so in a wide one in which part page p is");
        for (int from = 0; from < 256; from += 32) {
            for (int slot = 0; slot < 4; slot++) {
                SlotScreen x = new SlotScreen();
                x.widen(slot);
                for (int part = 0; part < 4; part++) {
                    x.plug(slot, part, ROM, 0);
                    for (int a : PAGE_EDGES) {
                        x.burn(slot, part, a, 50 * part + a / 8);
                    }
                }
                x.out(2, 85 * slot);
                for (int number = from; number < from + 32; number++) {
                    x.write(255, number);
                    for (int a : PAGE_EDGES) {
                        DUE.is(number + " in slot " + slot + " at " + a, x.read(a),
                                50 * digit(number, a / 64) + a / 8);
                    }
                }
            }
        }
    }

    private static void secondaryOfAPlainSlot() {
        DUE.by("of a plain one it isn't looked at");
        SlotScreen x = new SlotScreen();
        x.plug(0, 0, RAM, 0);
        for (int number = 0; number < 256; number += 51) {
            x.write(255, number);
            x.write(0, number / 2);
            DUE.is("the RAM's own byte", x.read(255), number);
            DUE.is("page 0 is in part 0", x.read(0), number / 2);
            DUE.is("and is there by far", x.far(0, 0, 0), number / 2);
            DUE.is("secondary(0)", x.secondary(0), SlotScreen.NONE);
        }
        // What is written while the slot is plain is no number of the wide slot later.
        SlotScreen y = new SlotScreen();
        y.write(255, 228);
        y.widen(0);
        DUE.is("secondary(0)", y.secondary(0), 0);
        DUE.is("read(255)", y.read(255), 255);
    }

    private static void numbersAreZeroAtFirst() {
        DUE.by("All these numbers are 0 at first");
        SlotScreen x = new SlotScreen();
        DUE.is("in(2)", x.in(2), 0);
        for (int slot = 0; slot < 4; slot++) {
            x.widen(slot);
            x.plug(slot, 0, RAM, 0);
        }
        for (int slot = 0; slot < 4; slot++) {
            DUE.is("secondary(" + slot + ")", x.secondary(slot), 0);
        }
        for (int a : PAGE_EDGES) {
            x.write(a, 9);
            DUE.is("slot 0, part 0 at " + a, x.far(0, 0, a), 9);
        }
    }

    private static void nothingInAPlainSlot() {
        DUE.by("Where there is no device 255 is read, and writing does nothing");
        SlotScreen x = new SlotScreen();
        x.plug(0, 0, RAM, 0);
        x.out(2, 85);
        for (int a = 0; a < 256; a += 3) {
            DUE.is("slot 1 at " + a, x.read(a), 255);
            x.write(a, 1);
            DUE.is("slot 1 at " + a + " behind a write", x.read(a), 255);
            DUE.is("slot 0 at " + a, x.far(0, 0, a), 0);
        }
        x.plug(1, 0, RAM, 0);
        for (int a = 0; a < 256; a += 51) {
            DUE.is("a device that comes later at " + a, x.read(a), 0);
        }
    }

    private static void nothingInAPart() {
        DUE.by("Where there is no device 255 is read, and writing does nothing");
        SlotScreen x = new SlotScreen();
        x.widen(2);
        x.plug(2, 0, RAM, 0);
        x.plug(2, 3, SMALL_RAM, 0);
        x.out(2, 170);
        for (int part = 1; part <= 2; part++) {
            x.write(255, 85 * part);
            for (int a : PAGE_EDGES) {
                DUE.is("part " + part + " at " + a, x.read(a), 255);
                x.write(a, 1);
                DUE.is("part " + part + " at " + a + " behind a write", x.read(a), 255);
                DUE.is("part 0 at " + a, x.far(2, 0, a), 0);
                DUE.is("part 3 at " + a, x.far(2, 3, a), 0);
            }
        }
    }

    private static void contraryIsRead() {
        DUE.by("at address 255 .. its secondary number's contrary (255 less it) is read");
        for (int slot = 0; slot < 4; slot++) {
            for (int from = 0; from < 256; from += 128) {
                SlotScreen x = new SlotScreen();
                x.widen(slot);
                x.out(2, 64 * slot);
                for (int v = from; v < from + 128; v++) {
                    x.write(255, v);
                    DUE.is("slot " + slot + " with " + v, x.read(255), 255 - v);
                    DUE.is("secondary(" + slot + ")", x.secondary(slot), v);
                }
            }
        }
    }

    private static void writingSetsTheNumber() {
        DUE.by("at address 255 .. writing sets that number");
        SlotScreen x = new SlotScreen();
        x.widen(1);
        x.widen(3);
        for (int part = 0; part < 4; part++) {
            x.plug(1, part, SMALL_RAM, 0);
        }
        x.out(2, 85);
        x.write(63, 5);
        x.write(255, 64);
        // Byte 63 of the small RAM lies at 255 too, but what is written there isn't its.
        for (int part = 0; part < 4; part++) {
            DUE.is("part " + part + " at 63", x.far(1, part, 63), part == 0 ? 5 : 0);
        }
        DUE.is("secondary(1)", x.secondary(1), 64);
        DUE.is("secondary(3)", x.secondary(3), 0);
        x.out(2, 192);
        x.write(255, 27);
        DUE.is("secondary(1)", x.secondary(1), 64);
        DUE.is("secondary(3)", x.secondary(3), 27);
        // The new number holds at once, for page 3 too.
        SlotScreen y = new SlotScreen();
        y.widen(0);
        y.plug(0, 2, RAM, 0);
        DUE.is("part 0", y.read(192), 255);
        y.write(255, 128);
        DUE.is("part 2", y.read(192), 0);
        DUE.is("page 2 is in part 0 still", y.read(191), 255);
    }

    private static void only255IsTheNumber() {
        DUE.by("But at address 255");
        SlotScreen x = new SlotScreen();
        x.widen(0);
        x.plug(0, 0, RAM, 0);
        int[] others = {0, 63, 127, 191, 192, 253, 254};
        for (int a : others) {
            x.write(a, 200);
            DUE.is("the RAM's at " + a, x.read(a), 200);
        }
        DUE.is("secondary(0)", x.secondary(0), 0);
        DUE.is("read(255)", x.read(255), 255);
        // A ROM's byte 255 can be burnt there, but isn't read.
        SlotScreen y = new SlotScreen();
        y.widen(0);
        y.plug(0, 0, ROM, 0);
        DUE.is("burn(0, 0, 255, 9)", y.burn(0, 0, 255, 9), true);
        DUE.is("burn(0, 0, 254, 8)", y.burn(0, 0, 254, 8), true);
        DUE.is("read(255)", y.read(255), 255);
        DUE.is("read(254)", y.read(254), 8);
        DUE.is("secondary(0)", y.secondary(0), 0);
    }

    private static void onlyPage3Decides() {
        DUE.by("if the slot in which page 3 is is wide");
        for (int from = 0; from < 256; from += 64) {
            SlotScreen x = new SlotScreen();
            x.plug(0, 0, RAM, 0);
            x.write(255, 77);
            x.widen(1);
            x.plug(1, 0, RAM, 0);
            x.plug(3, 0, ROM, 0);
            x.burn(3, 0, 255, 88);
            x.out(2, 64);
            x.write(255, 100);
            int[] want = {77, 155, 255, 88};
            for (int number = from; number < from + 64; number++) {
                x.out(2, number);
                DUE.is("read(255) with primary " + number, x.read(255), want[digit(number, 3)]);
                DUE.is("secondary(1)", x.secondary(1), 100);
            }
        }
    }

    private static void onlyAWideSlotHasIt() {
        DUE.by("if the slot in which page 3 is is wide");
        int[] kinds = {RAM, ROM, BANKS, SMALL_RAM};
        int[] behind = {9, 0, 255, 9};
        for (int slot = 0; slot < 4; slot++) {
            for (int i = 0; i < 4; i++) {
                SlotScreen x = new SlotScreen();
                x.plug(slot, 0, kinds[i], 8);
                x.out(2, 64 * slot);
                x.write(255, 9);
                DUE.is("plain slot " + slot + ", kind " + kinds[i], x.read(255), behind[i]);
                DUE.is("secondary(" + slot + ")", x.secondary(slot), SlotScreen.NONE);
                SlotScreen y = new SlotScreen();
                y.widen(slot);
                y.plug(slot, 0, kinds[i], 8);
                y.out(2, 64 * slot);
                y.write(255, 9);
                DUE.is("wide slot " + slot + ", kind " + kinds[i], y.read(255), 246);
                DUE.is("secondary(" + slot + ")", y.secondary(slot), 9);
            }
        }
    }

    /** Slots 0 and 2 are plain, 1 and 3 wide; all kinds of devices; both numbers are set. */
    private static SlotScreen mixed() {
        SlotScreen x = new SlotScreen();
        x.plug(0, 0, ROM, 0);
        x.widen(1);
        x.widen(3);
        x.plug(1, 0, SMALL_RAM, 0);
        x.plug(1, 1, BANKS, 3);
        x.plug(1, 3, ROM, 0);
        x.plug(2, 0, SMALL_RAM, 0);
        x.plug(3, 2, RAM, 0);
        for (int a : PAGE_EDGES) {
            x.burn(0, 0, a, a / 2 + 1);
            x.burn(1, 3, a, a / 2 + 2);
        }
        x.burn(0, 0, 255, 66);
        for (int place = 0; place < 96; place += 31) {
            x.burn(1, 1, place, place + 3);
        }
        x.out(2, 255);
        x.write(255, 170);
        for (int a : PAGE_EDGES) {
            x.write(a, a / 2 + 5);
        }
        x.write(255, 2 + 4 + 48);
        x.out(2, 64);
        x.write(255, 1 + 8 + 64 * 3);
        x.out(2, 1 + 4 * 3 + 16 * 2 + 64);
        return x;
    }

    private static void farIsWhatReadWouldBe() {
        DUE.by("far: What read would be if the address's page were in that part of that slot");
        for (int slot = 0; slot < 4; slot++) {
            for (int part = 0; part < 4; part++) {
                for (int a : PAGE_EDGES) {
                    readAndFar(slot, part, a);
                }
                readAndFar(slot, part, 255);
                readAndFar(slot, part, 95);
                readAndFar(slot, part, 160);
            }
        }
    }

    private static void readAndFar(int slot, int part, int address) {
        SlotScreen x = mixed();
        int got = x.far(slot, part, address);
        int page = address / 64;
        if (x.secondary(slot) != SlotScreen.NONE) {
            int number = x.secondary(slot);
            x.out(2, 64 * slot);
            x.write(255, number + (part - digit(number, page)) * (1 << 2 * page));
        }
        x.out(2, slot * (1 << 2 * page));
        DUE.is("far(" + slot + ", " + part + ", " + address + ")", got, x.read(address));
    }

    private static void farLeavesTheNumbers() {
        DUE.by("far: all numbers being as they were before and behind it");
        SlotScreen x = mixed();
        for (int slot = 0; slot < 4; slot++) {
            for (int part = 0; part < 4; part++) {
                x.far(slot, part, 0);
                x.far(slot, part, 255);
                DUE.is("in(2)", x.in(2), 1 + 4 * 3 + 16 * 2 + 64);
                DUE.is("secondary(1)", x.secondary(1), 1 + 8 + 64 * 3);
                DUE.is("secondary(3)", x.secondary(3), 2 + 4 + 48);
            }
        }
    }

    private static void farAt255() {
        DUE.by("far: at address 255 of a wide slot: 255 less its secondary number with the part as bits 6 and 7");
        int[] numbers = {0, 1, 63, 64, 127, 128, 191, 192, 254, 255};
        for (int slot = 0; slot < 4; slot++) {
            for (int number : numbers) {
                SlotScreen x = new SlotScreen();
                x.widen(slot);
                x.plug(slot, 1, RAM, 0);
                x.out(2, 64 * slot);
                x.write(255, number);
                x.out(2, 64 * (3 - slot));
                for (int part = 0; part < 4; part++) {
                    DUE.is("far(" + slot + ", " + part + ", 255) with " + number,
                            x.far(slot, part, 255), 255 - (number % 64 + 64 * part));
                    DUE.is("far(" + slot + ", " + part + ", 254)",
                            x.far(slot, part, 254), part == 1 ? 0 : 255);
                    DUE.is("far(" + slot + ", " + part + ", 191)",
                            x.far(slot, part, 191), part == 1 ? 0 : 255);
                }
                DUE.is("secondary(" + slot + ")", x.secondary(slot), number);
            }
        }
    }

    private static void farOfAPlainSlot() {
        DUE.by("far: of a plain slot the part isn't looked at");
        SlotScreen x = mixed();
        for (int part = 0; part < 4; part++) {
            for (int a : PAGE_EDGES) {
                DUE.is("far(0, " + part + ", " + a + ")", x.far(0, part, a), a / 2 + 1);
                DUE.is("far(2, " + part + ", " + a + ")", x.far(2, part, a), 0);
            }
            DUE.is("far(0, " + part + ", 255)", x.far(0, part, 255), 66);
            DUE.is("far(2, " + part + ", 255)", x.far(2, part, 255), 0);
        }
    }

    private static void farRefuses() {
        DUE.by("far: IllegalArgumentException: no such slot or address, or part isn't 0 .. 3");
        SlotScreen x = mixed();
        DUE.isTaken("far(0, 0, 0)", () -> x.far(0, 0, 0));
        DUE.isTaken("far(3, 3, 255)", () -> x.far(3, 3, 255));
        DUE.isTaken("far(2, 3, 255)", () -> x.far(2, 3, 255));
        for (int no : NO_SLOTS) {
            for (int part = 0; part < 4; part++) {
                int p = part;
                DUE.isArgumentFault("far(" + no + ", " + p + ", 0)", () -> x.far(no, p, 0));
            }
            for (int slot = 0; slot < 4; slot++) {
                int s = slot;
                DUE.isArgumentFault("far(" + s + ", " + no + ", 0)", () -> x.far(s, no, 0));
                DUE.isArgumentFault("far(" + s + ", " + no + ", 255)", () -> x.far(s, no, 255));
            }
        }
        for (int no : NO_ADDRESSES) {
            for (int slot = 0; slot < 4; slot++) {
                int s = slot;
                DUE.isArgumentFault("far(" + s + ", 0, " + no + ")", () -> x.far(s, 0, no));
            }
        }
    }

    private static void secondaryAnswers() {
        DUE.by("secondary: The secondary number of a slot; NONE if it is plain, or there is none such");
        for (int slot = 0; slot < 4; slot++) {
            SlotScreen x = new SlotScreen();
            DUE.is("plain " + slot, x.secondary(slot), SlotScreen.NONE);
            x.plug((slot + 1) % 4, 0, RAM, 0);
            DUE.is("plain with a device " + (slot + 1) % 4, x.secondary((slot + 1) % 4), SlotScreen.NONE);
            x.widen(slot);
            DUE.is("wide " + slot, x.secondary(slot), 0);
            x.out(2, 64 * slot);
            x.write(255, 255);
            DUE.is("with 255 " + slot, x.secondary(slot), 255);
            for (int no : NO_SLOTS) {
                DUE.is("secondary(" + no + ")", x.secondary(no), SlotScreen.NONE);
            }
        }
    }
}
