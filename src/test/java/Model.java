/**
 * The document told once more, without the program's shortcuts: what each call answers, worked out
 * byte by byte and pixel by pixel. Tests with mixed calls compare the program with it.
 */
final class Model {
    private static final int RAM = 1;
    private static final int ROM = 2;
    private static final int BANKS = 3;
    private static final int SMALL_RAM = 4;

    /** The kind of the device in each part of each slot, 0 if there is none. */
    private final int[][] kinds = new int[4][4];
    private final int[][] bankCounts = new int[4][4];
    private final int[][][] memory = new int[4][4][256];
    private final int[][][] windows = new int[4][4][4];
    private final boolean[] wide = new boolean[4];
    private final int[] secondaries = new int[4];
    private int primary;

    private final int[] bytes = new int[512];
    private final int[] registers = new int[8];
    private int status;
    private int pointer;
    private int ready;
    private boolean waits;
    private int waiting;

    private final int[][] pixels = new int[32][64];
    private int next;

    int answer(Call c) {
        switch (c.name()) {
            case "widen":
                return widen(c.argument(0));
            case "plug":
                return plug(c.argument(0), c.argument(1), c.argument(2), c.argument(3));
            case "burn":
                return burn(c.argument(0), c.argument(1), c.argument(2), c.argument(3));
            case "read":
                return read(c.argument(0));
            case "write":
                return write(c.argument(0), c.argument(1));
            case "far":
                return far(c.argument(0), c.argument(1), c.argument(2));
            case "in":
                return in(c.argument(0));
            case "out":
                return out(c.argument(0), c.argument(1));
            case "scan":
                return scan();
            case "pixel":
                return among(c.argument(0), 0, 63) && among(c.argument(1), 0, 31)
                        ? pixels[c.argument(1)][c.argument(0)] : -1;
            case "video":
                return among(c.argument(0), 0, 511) ? bytes[c.argument(0)] : -1;
            case "chip":
                return chip(c.argument(0));
            case "secondary":
                return among(c.argument(0), 0, 3) && wide[c.argument(0)] ? secondaries[c.argument(0)] : -1;
            default:
                return registers[1] / 32 % 2 == 1 && status >= 128 ? Call.TRUE : Call.FALSE;
        }
    }

    private static boolean among(int n, int low, int high) {
        return low <= n && n <= high;
    }

    private int widen(int slot) {
        if (!among(slot, 0, 3)) {
            return Call.ARGUMENT_FAULT;
        }
        if (wide[slot] || kinds[slot][0] != 0) {
            return Call.STATE_FAULT;
        }
        wide[slot] = true;
        return Call.DONE;
    }

    private int plug(int slot, int part, int kind, int banks) {
        if (!among(slot, 0, 3) || !among(part, 0, 3) || !among(kind, 1, 4) || kind == BANKS && !among(banks, 1, 8)) {
            return Call.ARGUMENT_FAULT;
        }
        if (part > 0 && !wide[slot] || kinds[slot][part] != 0) {
            return Call.STATE_FAULT;
        }
        kinds[slot][part] = kind;
        bankCounts[slot][part] = banks;
        for (int w = 0; w < 4 && kind == BANKS; w++) {
            windows[slot][part][w] = w % banks;
        }
        return Call.DONE;
    }

    private int burn(int slot, int part, int place, int v) {
        if (!among(slot, 0, 3) || !among(part, 0, 3) || !among(v, 0, 255)) {
            return Call.FALSE;
        }
        int kind = kinds[slot][part];
        int last = kind == ROM ? 255 : kind == BANKS ? 32 * bankCounts[slot][part] - 1 : -1;
        if (!among(place, 0, last)) {
            return Call.FALSE;
        }
        memory[slot][part][place] = v;
        return Call.TRUE;
    }

    private static int ofPage(int number, int page) {
        int[] digits = {number % 4, number / 4 % 4, number / 16 % 4, number / 64};
        return digits[page];
    }

    private int read(int address) {
        if (!among(address, 0, 255)) {
            return Call.ARGUMENT_FAULT;
        }
        int slot = ofPage(primary, address / 64);
        if (address == 255 && wide[slot]) {
            return 255 - secondaries[slot];
        }
        int part = wide[slot] ? ofPage(secondaries[slot], address / 64) : 0;
        switch (kinds[slot][part]) {
            case RAM:
            case ROM:
                return memory[slot][part][address];
            case BANKS:
                return among(address, 64, 191)
                        ? memory[slot][part][32 * windows[slot][part][address / 32 - 2] + address % 32] : 255;
            case SMALL_RAM:
                return memory[slot][part][address % 64];
            default:
                return 255;
        }
    }

    private int write(int address, int v) {
        if (!among(address, 0, 255) || !among(v, 0, 255)) {
            return Call.ARGUMENT_FAULT;
        }
        int slot = ofPage(primary, address / 64);
        int part = wide[slot] ? ofPage(secondaries[slot], address / 64) : 0;
        int kind = kinds[slot][part];
        if (address == 255 && wide[slot]) {
            secondaries[slot] = v;
        } else if (kind == RAM) {
            memory[slot][part][address] = v;
        } else if (kind == SMALL_RAM) {
            memory[slot][part][address % 64] = v;
        } else if (kind == BANKS && among(address, 64, 191)) {
            windows[slot][part][address / 32 - 2] = v % bankCounts[slot][part];
        }
        return Call.DONE;
    }

    /** Puts the page there, reads, and puts the numbers back. */
    private int far(int slot, int part, int address) {
        if (!among(slot, 0, 3) || !among(part, 0, 3) || !among(address, 0, 255)) {
            return Call.ARGUMENT_FAULT;
        }
        int[] weights = {1, 4, 16, 64};
        int page = address / 64;
        int primaryBefore = primary;
        int secondaryBefore = secondaries[slot];
        primary += (slot - ofPage(primary, page)) * weights[page];
        secondaries[slot] += (part - ofPage(secondaryBefore, page)) * weights[page];
        int answer = read(address);
        primary = primaryBefore;
        secondaries[slot] = secondaryBefore;
        return answer;
    }

    private int in(int port) {
        if (!among(port, 0, 2)) {
            return 255;
        }
        if (port == 2) {
            return primary;
        }
        waits = false;
        int answer = port == 0 ? ready : status;
        if (port == 0) {
            fetch();
        } else {
            status %= 32;
        }
        return answer;
    }

    private int out(int port, int v) {
        if (!among(v, 0, 255)) {
            return Call.FALSE;
        }
        if (port == 0) {
            waits = false;
            bytes[pointer] = v;
            fetch();
        } else if (port == 1) {
            command(v);
        } else if (port == 2) {
            primary = v;
        }
        return Call.TRUE;
    }

    private void command(int v) {
        if (!waits) {
            waits = true;
            waiting = v;
            return;
        }
        waits = false;
        if (v >= 128) {
            registers[v % 8] = waiting;
        } else {
            pointer = waiting + 256 * (v % 2);
            if (v < 64) {
                fetch();
            }
        }
    }

    private void fetch() {
        ready = bytes[pointer];
        pointer = pointer == 511 ? 0 : pointer + 1;
    }

    private int chip(int what) {
        if (among(what, 0, 7)) {
            return registers[what];
        }
        switch (what) {
            case 8:
                return status;
            case 9:
                return pointer;
            case 10:
                return ready;
            default:
                return what == 11 && waits ? waiting : -1;
        }
    }

    private int scan() {
        int line = next;
        for (int column = 0; column < 64; column++) {
            pixels[line][column] = isBlank() ? registers[7] % 16 : color(column, line);
        }
        if (!isBlank()) {
            noteFifth(line);
            noteTouch(line);
        }
        if (line == 31 && status < 128) {
            status += 128;
        }
        next = line == 31 ? 0 : line + 1;
        return line;
    }

    private boolean isBlank() {
        return registers[1] / 64 % 2 == 0;
    }

    private int color(int column, int line) {
        for (int k = 0; k < 8; k++) {
            int color = bytes[sprite(k) + 3] % 16;
            if (isDrawn(k, line) && hasBit(k, column, line) && color != 0) {
                return color;
            }
        }
        int name = bytes[32 * (registers[2] % 16) + line / 8 * 8 + column / 8] % 32;
        int row = bytes[256 * (registers[4] % 2) + 8 * name + line % 8];
        int both = bytes[4 * (registers[3] % 128) + name / 8];
        int own = row / (1 << 7 - column % 8) % 2 == 1 ? both / 16 : both % 16;
        return own == 0 ? registers[7] % 16 : own;
    }

    private void noteFifth(int line) {
        for (int k = 0; k < 8; k++) {
            if (hasLine(k, line) && countBefore(k, line) == 4 && status / 64 % 2 == 0) {
                status = status / 32 * 32 + 64 + k;
            }
        }
    }

    private void noteTouch(int line) {
        for (int column = 0; column < 64; column++) {
            int bits = 0;
            for (int k = 0; k < 8; k++) {
                bits += isDrawn(k, line) && hasBit(k, column, line) ? 1 : 0;
            }
            if (bits >= 2 && status / 32 % 2 == 0) {
                status += 32;
            }
        }
    }

    private int sprite(int k) {
        return 32 * (registers[5] % 16) + 4 * k;
    }

    private int size() {
        return registers[1] / 2 % 2 == 1 ? 16 : 8;
    }

    private int top(int k) {
        int y = bytes[sprite(k)];
        return y >= 224 ? y - 255 : y + 1;
    }

    private boolean isThere(int k) {
        for (int i = 0; i <= k; i++) {
            if (bytes[sprite(i)] == 208) {
                return false;
            }
        }
        return true;
    }

    private boolean hasLine(int k, int line) {
        return isThere(k) && among(line, top(k), top(k) + size() * zoom() - 1);
    }

    private int zoom() {
        return registers[1] % 2 + 1;
    }

    private int countBefore(int k, int line) {
        int count = 0;
        for (int i = 0; i < k; i++) {
            count += hasLine(i, line) ? 1 : 0;
        }
        return count;
    }

    private boolean isDrawn(int k, int line) {
        return hasLine(k, line) && countBefore(k, line) < 4;
    }

    private boolean hasBit(int k, int column, int line) {
        int left = bytes[sprite(k) + 1] - (bytes[sprite(k) + 3] >= 128 ? 32 : 0);
        if (column < left || column >= left + size() * zoom()) {
            return false;
        }
        int c = (column - left) / zoom();
        int row = (line - top(k)) / zoom();
        int n = bytes[sprite(k) + 2] % 16;
        int pattern = size() == 8 ? 8 * n : 8 * (n / 4 * 4) + (c > 7 ? 16 : 0);
        return bytes[128 * (registers[6] % 4) + pattern + row] / (1 << 7 - c % 8) % 2 == 1;
    }
}
