/**
 * Promises 10 and 11 on mixed scenes: each pixel and the status are worked out anew, pixel by
 * pixel, from the chip's bytes and registers. An object gets no more than its 512 calls.
 */
public final class SceneTest {
    private static final Due DUE = new Due();
    private static final int SCENES = 4000;
    private static final int CALLS = 512;

    private final int[] bytes = new int[512];
    private final int[] registers = new int[8];
    private final int[] drawn = new int[4];
    private final SlotScreen x = new SlotScreen();
    private final Dice dice;
    private int calls;
    private int status;

    private SceneTest(int seed) {
        dice = new Dice(seed);
    }

    public static void main(String[] args) {
        for (int seed = 0; seed < SCENES; seed++) {
            new SceneTest(seed).play(seed);
        }
        DUE.end();
    }

    private void play(int seed) {
        for (int n = 0; n < 8; n++) {
            setRegister(n, dice.below(256));
        }
        setRegister(1, dice.below(10) == 0 ? dice.below(256) : 64 + dice.below(4));
        int sprites = 32 * (registers[5] % 16);
        fill(sprites, 32, true);
        fill(32 * (registers[2] % 16), 32, false);
        fill(128 * (registers[6] % 4), 64, false);
        fill(dice.below(512), 60, false);
        for (int line = 0; line < 32; line++) {
            String at = "scene " + seed + " line " + line;
            DUE.is(at, x.scan(), line);
            int[] want = new int[64];
            for (int c = 0; c < 64; c++) {
                want[c] = color(c, line);
            }
            changeStatus(line);
            DUE.is(at + " status", x.chip(8), status);
            calls += 2;
            for (int i = 0; i < 5; i++) {
                int c = dice.below(64);
                DUE.is(at + " column " + c, x.pixel(c, line), want[c]);
                calls++;
            }
            if (dice.below(5) == 0) {
                DUE.is(at + " in(1)", x.in(1), status);
                status %= 32;
                calls++;
            }
        }
        DUE.is("scene " + seed + " keeps to its calls", calls <= CALLS, true);
    }

    private void setRegister(int n, int v) {
        Video.register(x, n, v);
        calls += 2;
        registers[n] = v;
    }

    private void fill(int place, int count, boolean asSprites) {
        int[] values = new int[count];
        for (int i = 0; i < count; i++) {
            int at = (place + i) % 512;
            values[i] = asSprites ? spriteByte(i % 4) : dice.below(256);
            bytes[at] = values[i];
        }
        Video.bytes(x, place, values);
        calls += 2 + count;
    }

    private int spriteByte(int which) {
        switch (which) {
            case 0:
                return dice.below(20) == 0 ? 208 : (224 + dice.below(64)) % 256;
            case 1:
                return dice.below(100);
            case 3:
                return dice.below(4) == 0 ? 16 * dice.below(16) : dice.below(256);
            default:
                return dice.below(256);
        }
    }

    private int color(int column, int line) {
        int back = registers[7] % 16;
        if (registers[1] / 64 % 2 == 0) {
            return back;
        }
        int count = Math.min(4, spritesOn(line));
        for (int i = 0; i < count; i++) {
            int c = bytes[sprite(drawn[i]) + 3] % 16;
            if (c != 0 && hasBit(drawn[i], column, line)) {
                return c;
            }
        }
        int tile = line / 8 * 8 + column / 8;
        int name = bytes[32 * (registers[2] % 16) + tile] % 32;
        int row = bytes[256 * (registers[4] % 2) + 8 * name + line % 8];
        int both = bytes[4 * (registers[3] % 128) + name / 8];
        int own = row / (1 << 7 - column % 8) % 2 == 1 ? both / 16 : both % 16;
        return own == 0 ? back : own;
    }

    private void changeStatus(int line) {
        if (registers[1] / 64 % 2 == 1) {
            int count = spritesOn(line);
            if (count > 4 && status / 64 % 2 == 0) {
                status = status / 32 * 32 + 64 + fifth(line);
            }
            for (int column = 0; column < 64 && status / 32 % 2 == 0; column++) {
                int bits = 0;
                for (int i = 0; i < Math.min(4, count); i++) {
                    bits += hasBit(drawn[i], column, line) ? 1 : 0;
                }
                status += bits > 1 ? 32 : 0;
            }
        }
        if (line == 31 && status < 128) {
            status += 128;
        }
    }

    private int sprite(int k) {
        return 32 * (registers[5] % 16) + 4 * k;
    }

    private int size() {
        return (registers[1] / 2 % 2 == 1 ? 16 : 8) << registers[1] % 2;
    }

    private int top(int k) {
        int y = bytes[sprite(k)];
        return y >= 224 ? y - 255 : y + 1;
    }

    private boolean isOn(int k, int line) {
        return line >= top(k) && line <= top(k) + size() - 1;
    }

    private int spritesOn(int line) {
        int count = 0;
        for (int k = 0; k < 8 && bytes[sprite(k)] != 208; k++) {
            if (isOn(k, line)) {
                if (count < 4) {
                    drawn[count] = k;
                }
                count++;
            }
        }
        return count;
    }

    private int fifth(int line) {
        int k = drawn[3] + 1;
        while (!isOn(k, line)) {
            k++;
        }
        return k;
    }

    private boolean hasBit(int k, int column, int line) {
        int left = bytes[sprite(k) + 1] - 32 * (bytes[sprite(k) + 3] / 128);
        int c = column - left;
        if (c < 0 || c >= size()) {
            return false;
        }
        int zoom = registers[1] % 2 + 1;
        int row = (line - top(k)) / zoom;
        c /= zoom;
        int n = bytes[sprite(k) + 2] % 16;
        int place = 128 * (registers[6] % 4) + row;
        if (registers[1] / 2 % 2 == 1) {
            place += 8 * (n / 4 * 4) + (c > 7 ? 16 : 0);
        } else {
            place += 8 * n;
        }
        return (bytes[place] & 128 >> c % 8) != 0;
    }
}
