/**
 * A small computer's memory, whose pages lie in slots and their parts, and its screen chip, which
 * draws tiles and sprites line by line.
 */
public final class SlotScreen {
    /** Nothing there. */
    public static final int NONE = -1;

    private static final int SLOTS = 4;
    private static final int PARTS = 4;
    private static final int ADDRESSES = 256;
    /** What is read where nothing answers. */
    private static final int OPEN = 255;

    private static final int KIND_RAM = 1;
    private static final int KIND_ROM = 2;
    private static final int KIND_BANKS = 3;
    private static final int KIND_SMALL_RAM = 4;
    private static final int MOST_BANKS = 8;

    private static final int PORT_DATA = 0;
    private static final int PORT_CONTROL = 1;
    private static final int PORT_PRIMARY = 2;

    private final Slots slots;
    private final Chip chip;
    private final Screen screen;

    public SlotScreen() {
        slots = new Slots();
        chip = new Chip();
        screen = new Screen(chip);
    }

    public void widen(int slot) throws IllegalArgumentException, IllegalStateException {
        if (!isSlot(slot)) {
            throw new IllegalArgumentException("no such slot");
        }
        if (slots.isWide(slot) || slots.deviceIn(slot, 0) != null) {
            throw new IllegalStateException("the slot is wide or has a device");
        }
        slots.makeWide(slot);
    }

    public void plug(int slot, int part, int kind, int banks)
            throws IllegalArgumentException, IllegalStateException {
        if (!isSlot(slot) || !isPart(part) || !isDevice(kind, banks)) {
            throw new IllegalArgumentException("no such slot, part or device");
        }
        if (!slots.hasPart(slot, part) || slots.deviceIn(slot, part) != null) {
            throw new IllegalStateException("the slot hasn't that part, or it is taken");
        }
        slots.put(slot, part, newDevice(kind, banks));
    }

    public boolean burn(int slot, int part, int place, int v) {
        if (!isSlot(slot) || !isPart(part) || !isByte(v)) {
            return false;
        }
        Device device = slots.deviceIn(slot, part);
        return device != null && device.fix(place, v);
    }

    public int read(int address) throws IllegalArgumentException {
        if (!isAddress(address)) {
            throw new IllegalArgumentException("no such address");
        }
        int slot = slots.slotAt(address);
        return slots.byteIn(slot, slots.partAt(slot, address), address);
    }

    public void write(int address, int v) throws IllegalArgumentException {
        if (!isAddress(address) || !isByte(v)) {
            throw new IllegalArgumentException("no such address, or no byte");
        }
        slots.store(address, v);
    }

    public int far(int slot, int part, int address) throws IllegalArgumentException {
        if (!isSlot(slot) || !isPart(part) || !isAddress(address)) {
            throw new IllegalArgumentException("no such slot, part or address");
        }
        return slots.byteIn(slot, part, address);
    }

    public int in(int port) {
        switch (port) {
            case PORT_DATA:
                return chip.takeData();
            case PORT_CONTROL:
                return chip.takeStatus();
            case PORT_PRIMARY:
                return slots.primary();
            default:
                return OPEN;
        }
    }

    public boolean out(int port, int v) {
        if (!isByte(v)) {
            return false;
        }
        switch (port) {
            case PORT_DATA:
                chip.giveData(v);
                break;
            case PORT_CONTROL:
                chip.giveControl(v);
                break;
            case PORT_PRIMARY:
                slots.setPrimary(v);
                break;
            default:
                break;
        }
        return true;
    }

    public int scan() {
        return screen.drawNextLine();
    }

    public int pixel(int x, int y) {
        return screen.colorAt(x, y);
    }

    public int video(int place) {
        return place >= 0 && place < Chip.BYTES ? chip.byteAt(place) : NONE;
    }

    public int chip(int what) {
        return chip.value(what);
    }

    public int secondary(int slot) {
        return isSlot(slot) && slots.isWide(slot) ? slots.secondaryOf(slot) : NONE;
    }

    public boolean calls() {
        return chip.wantsAttention();
    }

    private static boolean isSlot(int slot) {
        return slot >= 0 && slot < SLOTS;
    }

    private static boolean isPart(int part) {
        return part >= 0 && part < PARTS;
    }

    private static boolean isAddress(int address) {
        return address >= 0 && address < ADDRESSES;
    }

    private static boolean isByte(int v) {
        return v >= 0 && v <= 255;
    }

    private static boolean isDevice(int kind, int banks) {
        if (kind == KIND_BANKS) {
            return banks >= 1 && banks <= MOST_BANKS;
        }
        return kind == KIND_RAM || kind == KIND_ROM || kind == KIND_SMALL_RAM;
    }

    private static Device newDevice(int kind, int banks) {
        switch (kind) {
            case KIND_RAM:
                return new Ram(ADDRESSES);
            case KIND_ROM:
                return new Rom();
            case KIND_BANKS:
                return new Banks(banks);
            default:
                return new Ram(Slots.PAGE_SIZE);
        }
    }

    /** What lies in a part of a slot; its addresses are 0 .. 255. */
    private abstract static class Device {
        abstract int byteAt(int address);

        abstract void store(int address, int v);

        /** Puts a byte where writing can't; false if there is no such place. */
        boolean fix(int place, int v) {
            return false;
        }
    }

    /** RAM, and small RAM too, whose few bytes come again in each page. */
    private static final class Ram extends Device {
        private final int[] bytes;
        private final int mask;

        /** The size is a power of two. */
        Ram(int size) {
            bytes = new int[size];
            mask = size - 1;
        }

        @Override
        int byteAt(int address) {
            return bytes[address & mask];
        }

        @Override
        void store(int address, int v) {
            bytes[address & mask] = v;
        }
    }

    private static final class Rom extends Device {
        private final int[] bytes = new int[ADDRESSES];

        @Override
        int byteAt(int address) {
            return bytes[address & (ADDRESSES - 1)];
        }

        @Override
        void store(int address, int v) {
            // Only burning changes a ROM.
        }

        @Override
        boolean fix(int place, int v) {
            if (!isAddress(place)) {
                return false;
            }
            bytes[place] = v;
            return true;
        }
    }

    private static final class Banks extends Device {
        private static final int BANK_SIZE = 32;
        private static final int WINDOWS = 4;
        private static final int FIRST_ADDRESS = 64;

        private final int count;
        private final int[] bytes;
        private final int[] shown = new int[WINDOWS];

        /** The count is 1 .. 8. */
        Banks(int count) {
            this.count = count;
            bytes = new int[count * BANK_SIZE];
            for (int w = 0; w < WINDOWS; w++) {
                shown[w] = w % count;
            }
        }

        @Override
        int byteAt(int address) {
            if (!isInWindow(address)) {
                return OPEN;
            }
            return bytes[shown[windowOf(address)] * BANK_SIZE + address % BANK_SIZE];
        }

        @Override
        void store(int address, int v) {
            if (isInWindow(address)) {
                shown[windowOf(address)] = v % count;
            }
        }

        @Override
        boolean fix(int place, int v) {
            if (place < 0 || place >= bytes.length) {
                return false;
            }
            bytes[place] = v;
            return true;
        }

        private static boolean isInWindow(int address) {
            return address >= FIRST_ADDRESS && address < FIRST_ADDRESS + WINDOWS * BANK_SIZE;
        }

        private static int windowOf(int address) {
            return (address - FIRST_ADDRESS) / BANK_SIZE;
        }
    }

    /** The slots with their parts, and the numbers that say where each page is. */
    private static final class Slots {
        private static final int PAGE_SIZE = 64;
        /** In a wide slot this address is its secondary number, not its device's. */
        private static final int SECONDARY_ADDRESS = 255;
        /** The bits of a secondary number that are of pages 0 .. 2. */
        private static final int LOWER_PAGES = 63;

        private final Device[] devices = new Device[SLOTS * PARTS];
        private final boolean[] wide = new boolean[SLOTS];
        private final int[] secondaries = new int[SLOTS];
        private int primary;

        boolean isWide(int slot) {
            return wide[slot];
        }

        void makeWide(int slot) {
            wide[slot] = true;
        }

        boolean hasPart(int slot, int part) {
            return part == 0 || wide[slot];
        }

        Device deviceIn(int slot, int part) {
            return devices[slot * PARTS + part];
        }

        void put(int slot, int part, Device device) {
            devices[slot * PARTS + part] = device;
        }

        int primary() {
            return primary;
        }

        void setPrimary(int v) {
            primary = v;
        }

        int secondaryOf(int slot) {
            return secondaries[slot];
        }

        int slotAt(int address) {
            return pageBits(primary, address);
        }

        int partAt(int slot, int address) {
            return wide[slot] ? pageBits(secondaries[slot], address) : 0;
        }

        /** The byte that is read if the address's page is in this part; a plain slot has but one. */
        int byteIn(int slot, int part, int address) {
            if (wide[slot] && address == SECONDARY_ADDRESS) {
                return 255 - (secondaries[slot] & LOWER_PAGES | part << 6);
            }
            Device device = deviceIn(slot, wide[slot] ? part : 0);
            return device == null ? OPEN : device.byteAt(address);
        }

        void store(int address, int v) {
            int slot = slotAt(address);
            if (wide[slot] && address == SECONDARY_ADDRESS) {
                secondaries[slot] = v;
                return;
            }
            Device device = deviceIn(slot, partAt(slot, address));
            if (device != null) {
                device.store(address, v);
            }
        }

        private static int pageBits(int number, int address) {
            int page = address / PAGE_SIZE;
            return number >> 2 * page & 3;
        }
    }

    /** The screen's chip but for its drawing: what the ports reach. */
    private static final class Chip {
        private static final int BYTES = 512;
        private static final int REGISTERS = 8;
        private static final int STATUS_FRAME = 128;
        private static final int STATUS_FIFTH = 64;
        private static final int STATUS_TOUCH = 32;
        private static final int STATUS_NUMBER = 31;
        private static final int R1_CALLS = 32;

        private final int[] bytes = new int[BYTES];
        private final int[] registers = new int[REGISTERS];
        private int status;
        private int pointer;
        private int ready;
        private int waiting = NONE;

        int byteAt(int place) {
            return bytes[place & (BYTES - 1)];
        }

        int register(int n) {
            return registers[n & (REGISTERS - 1)];
        }

        int value(int what) {
            if (what >= 0 && what < REGISTERS) {
                return registers[what];
            }
            switch (what) {
                case 8:
                    return status;
                case 9:
                    return pointer;
                case 10:
                    return ready;
                case 11:
                    return waiting;
                default:
                    return NONE;
            }
        }

        int takeData() {
            waiting = NONE;
            int taken = ready;
            makeReady();
            return taken;
        }

        void giveData(int v) {
            waiting = NONE;
            bytes[pointer] = v;
            makeReady();
        }

        int takeStatus() {
            waiting = NONE;
            int taken = status;
            status = taken & STATUS_NUMBER;
            return taken;
        }

        void giveControl(int v) {
            if (waiting == NONE) {
                waiting = v;
                return;
            }
            int first = waiting;
            waiting = NONE;
            if (v >= 128) {
                registers[v % REGISTERS] = first;
                return;
            }
            pointer = first + 256 * (v % 2);
            if (v < 64) {
                makeReady();
            }
        }

        boolean wantsAttention() {
            return (registers[1] & R1_CALLS) != 0 && (status & STATUS_FRAME) != 0;
        }

        void noteFrame() {
            status |= STATUS_FRAME;
        }

        void noteTouch() {
            status |= STATUS_TOUCH;
        }

        /** Only the first since the status was read is kept. */
        void noteFifth(int sprite) {
            if ((status & STATUS_FIFTH) == 0) {
                status = status & ~STATUS_NUMBER | STATUS_FIFTH | sprite;
            }
        }

        private void makeReady() {
            ready = bytes[pointer];
            pointer = (pointer + 1) % BYTES;
        }
    }

    /** The pixels, and how the chip draws them, a line at a time. */
    private static final class Screen {
        private static final int COLUMNS = 64;
        private static final int LINES = 32;
        private static final int TILE = 8;
        private static final int TILES_ON_LINE = COLUMNS / TILE;
        private static final int SPRITES = 8;
        private static final int MOST_DRAWN = 4;
        private static final int LAST_SPRITE_MARK = 208;
        private static final int FIRST_Y_ABOVE = 224;
        private static final int R1_SHOWN = 64;
        private static final int R1_LARGE = 2;
        private static final int R1_DOUBLED = 1;

        private final Chip chip;
        private final int[] colors = new int[COLUMNS * LINES];
        private int next;
        // A bit for each column of the line that is drawn: the 64 columns just fill a long.
        private long covered;
        private long colored;

        Screen(Chip chip) {
            this.chip = chip;
        }

        int colorAt(int x, int y) {
            if (x < 0 || x >= COLUMNS || y < 0 || y >= LINES) {
                return NONE;
            }
            return colors[y * COLUMNS + x];
        }

        int drawNextLine() {
            int line = next;
            if ((chip.register(1) & R1_SHOWN) == 0) {
                drawBack(line);
            } else {
                drawTiles(line);
                drawSprites(line);
            }
            next = (line + 1) % LINES;
            if (next == 0) {
                chip.noteFrame();
            }
            return line;
        }

        private void drawBack(int line) {
            int back = backColor();
            for (int x = 0; x < COLUMNS; x++) {
                colors[line * COLUMNS + x] = back;
            }
        }

        private void drawTiles(int line) {
            int names = 32 * (chip.register(2) % 16) + line / TILE * TILES_ON_LINE;
            int pairs = 4 * (chip.register(3) % 128);
            int patterns = 256 * (chip.register(4) % 2) + line % TILE;
            for (int t = 0; t < TILES_ON_LINE; t++) {
                int name = chip.byteAt(names + t) % 32;
                int pattern = chip.byteAt(patterns + 8 * name);
                int pair = chip.byteAt(pairs + name / 8);
                drawTileRow(line * COLUMNS + t * TILE, pattern, pair);
            }
        }

        private void drawTileRow(int start, int pattern, int pair) {
            int front = orBack(pair / 16);
            int rear = orBack(pair % 16);
            for (int c = 0; c < TILE; c++) {
                colors[start + c] = (pattern >> TILE - 1 - c & 1) == 1 ? front : rear;
            }
        }

        private int backColor() {
            return chip.register(7) % 16;
        }

        private int orBack(int color) {
            return color == 0 ? backColor() : color;
        }

        private void drawSprites(int line) {
            covered = 0;
            colored = 0;
            int table = 32 * (chip.register(5) % 16);
            int height = spriteSide() * spriteZoom();
            int found = 0;
            for (int k = 0; k < SPRITES; k++) {
                int place = table + 4 * k;
                int y = chip.byteAt(place);
                if (y == LAST_SPRITE_MARK) {
                    return;
                }
                int below = line - topLine(y);
                if (below < 0 || below >= height) {
                    continue;
                }
                if (found == MOST_DRAWN) {
                    chip.noteFifth(k);
                    return;
                }
                found++;
                drawSpriteRow(line, place, below / spriteZoom());
            }
        }

        private static int topLine(int y) {
            return y < FIRST_Y_ABOVE ? y + 1 : y - 255;
        }

        private int spriteSide() {
            return (chip.register(1) & R1_LARGE) == 0 ? 8 : 16;
        }

        private int spriteZoom() {
            return (chip.register(1) & R1_DOUBLED) == 0 ? 1 : 2;
        }

        private void drawSpriteRow(int line, int place, int row) {
            int look = chip.byteAt(place + 3);
            int left = chip.byteAt(place + 1) - (look >= 128 ? 32 : 0);
            int bits = spriteBits(chip.byteAt(place + 2) % 16, row);
            int side = spriteSide();
            int zoom = spriteZoom();
            for (int c = 0; c < side * zoom; c++) {
                int x = left + c;
                if (x >= 0 && x < COLUMNS && (bits >> side - 1 - c / zoom & 1) == 1) {
                    coverPixel(line, x, look % 16);
                }
            }
        }

        /** A row of a sprite's pattern, as many bits as it has columns, the leftmost highest. */
        private int spriteBits(int number, int row) {
            int patterns = 128 * (chip.register(6) % 4) + row;
            if (spriteSide() == 8) {
                return chip.byteAt(patterns + 8 * number);
            }
            int leftHalf = patterns + 8 * (number & ~3);
            return chip.byteAt(leftHalf) << 8 | chip.byteAt(leftHalf + 16);
        }

        /** The sprites come by their numbers, so the first color that comes to a pixel stays. */
        private void coverPixel(int line, int x, int color) {
            long column = 1L << x;
            if ((covered & column) != 0) {
                chip.noteTouch();
            }
            covered |= column;
            if (color != 0 && (colored & column) == 0) {
                colored |= column;
                colors[line * COLUMNS + x] = color;
            }
        }
    }
}
