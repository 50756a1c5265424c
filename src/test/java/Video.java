/** Short ways to speak to the chip through its ports. */
final class Video {
    private Video() {
    }

    static void register(SlotScreen x, int n, int v) {
        x.out(1, v);
        x.out(1, 128 + n);
    }

    /** Writes bytes into the chip's memory from a place on. */
    static void bytes(SlotScreen x, int place, int... values) {
        x.out(1, place % 256);
        x.out(1, 64 + place / 256);
        for (int v : values) {
            x.out(0, v);
        }
    }

    static void scan(SlotScreen x, int lines) {
        for (int i = 0; i < lines; i++) {
            x.scan();
        }
    }

    /** The pixels of a line from one column to before another, a hexadecimal digit each. */
    static String line(SlotScreen x, int y, int from, int to) {
        StringBuilder s = new StringBuilder();
        for (int c = from; c < to; c++) {
            s.append(Integer.toHexString(x.pixel(c, y)));
        }
        return s.toString();
    }
}
