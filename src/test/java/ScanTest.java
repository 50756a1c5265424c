/** Promises 10 and 11: scan and pixel, with the tiles, the sprites and the status. */
public final class ScanTest {
    private static final Due DUE = new Due();

    public static void main(String[] args) {
        linesGoRound();
        pixelEdges();
        blankLines();
        frameBit();
        tileNamesAndPlaces();
        tileTables();
        tileColorZero();
        linesKeepWhatTheyHad();
        spriteTop();
        spriteAbove();
        spriteLeft();
        spriteEnd();
        spriteTables();
        largeSprites();
        doubledSprites();
        fourOnALine();
        fifthIsKept();
        fifthNeedsNoColorOrColumn();
        touching();
        spriteColors();
        DUE.end();
    }

    /** Tiles are empty, the back color is 7, the sprite table is at 256, the patterns are at 128. */
    private static SlotScreen withSprites(int r1, int... table) {
        SlotScreen x = new SlotScreen();
        Video.register(x, 1, 64 + r1);
        Video.register(x, 5, 8);
        Video.register(x, 6, 1);
        Video.register(x, 7, 7);
        Video.bytes(x, 256, table);
        return x;
    }

    private static void linesGoRound() {
        SlotScreen x = new SlotScreen();
        for (int i = 0; i < 100; i++) {
            DUE.is("scan " + i, x.scan(), i % 32);
        }
        SlotScreen y = new SlotScreen();
        Video.register(y, 1, 64);
        for (int i = 0; i < 100; i++) {
            DUE.is("scan shown " + i, y.scan(), i % 32);
        }
    }

    private static void pixelEdges() {
        SlotScreen x = new SlotScreen();
        Video.register(x, 7, 9);
        Video.scan(x, 32);
        DUE.is("pixel(0, 0)", x.pixel(0, 0), 9);
        DUE.is("pixel(63, 31)", x.pixel(63, 31), 9);
        int[] noColumn = {-1, 64, Integer.MIN_VALUE, Integer.MAX_VALUE};
        for (int c : noColumn) {
            DUE.is("pixel(" + c + ", 0)", x.pixel(c, 0), SlotScreen.NONE);
            DUE.is("pixel(" + c + ", 1)", x.pixel(c, 1), SlotScreen.NONE);
        }
        int[] noLine = {-1, 32, Integer.MIN_VALUE, Integer.MAX_VALUE};
        for (int y : noLine) {
            DUE.is("pixel(0, " + y + ")", x.pixel(0, y), SlotScreen.NONE);
            DUE.is("pixel(63, " + y + ")", x.pixel(63, y), SlotScreen.NONE);
        }
    }

    private static void blankLines() {
        SlotScreen x = withSprites(0, 255, 0, 0, 1, 255, 0, 0, 1, 255, 0, 0, 1, 255, 0, 0, 1, 255, 0, 0, 1, 208);
        Video.bytes(x, 128, 255, 255);
        Video.register(x, 1, 255 - 64);
        Video.register(x, 7, 0xF6);
        x.scan();
        DUE.is("blank", Video.line(x, 0, 0, 64), "6".repeat(64));
        DUE.is("no status", x.chip(8), 0);
        Video.register(x, 1, 64);
        x.scan();
        DUE.is("shown", Video.line(x, 1, 0, 9), "111111116");
        DUE.is("status", x.chip(8), 64 + 32 + 4);
    }

    private static void frameBit() {
        int[] shown = {0, 64};
        for (int r1 : shown) {
            SlotScreen x = new SlotScreen();
            Video.register(x, 1, r1);
            Video.scan(x, 31);
            DUE.is("behind line 30", x.chip(8) / 128, 0);
            DUE.is("line 31", x.scan(), 31);
            DUE.is("behind line 31", x.chip(8) / 128, 1);
            x.in(1);
            Video.scan(x, 31);
            DUE.is("behind line 30 again", x.chip(8) / 128, 0);
            x.scan();
            DUE.is("behind line 31 again", x.chip(8) / 128, 1);
        }
    }

    private static SlotScreen withTiles(int r2, int r3, int r4) {
        SlotScreen x = new SlotScreen();
        Video.register(x, 1, 64);
        Video.register(x, 2, r2);
        Video.register(x, 3, r3);
        Video.register(x, 4, r4);
        Video.register(x, 5, 15);
        Video.register(x, 7, 7);
        Video.bytes(x, 480, 208);
        return x;
    }

    private static void tileNamesAndPlaces() {
        // Names are at 448, patterns at 0, colors at 256.
        SlotScreen x = withTiles(14, 64, 0);
        Video.bytes(x, 448 + 8, 1, 33, 31, 255, 0, 0, 0, 9);
        Video.bytes(x, 448 + 24 + 7, 31);
        Video.bytes(x, 8, 0x80, 0x01, 0xA5);
        Video.bytes(x, 248, 0xF0, 0x0F);
        Video.bytes(x, 72, 0xFF);
        Video.bytes(x, 255, 0x3C);
        Video.bytes(x, 256, 0x12, 0x34, 0x56, 0x89);
        Video.scan(x, 32);
        DUE.is("line 7", Video.line(x, 7, 0, 64), "2".repeat(64));
        DUE.is("line 8", Video.line(x, 8, 0, 64), "12222222" + "12222222" + "88889999" + "88889999"
                + "2".repeat(24) + "33333333");
        DUE.is("line 9", Video.line(x, 9, 0, 32), "22222221" + "22222221" + "99998888" + "99998888");
        DUE.is("line 10", Video.line(x, 10, 0, 16), "1212212112122121");
        DUE.is("line 15", Video.line(x, 15, 16, 32), "9988889999888899");
        DUE.is("line 31", Video.line(x, 31, 48, 64), "2222222299888899");
    }

    private static void tileTables() {
        // All the bits that are not looked at are 1 here: names at 480, patterns at 256, colors at 508.
        SlotScreen x = new SlotScreen();
        Video.register(x, 0, 255);
        Video.register(x, 1, 255 - 3);
        Video.register(x, 2, 255);
        Video.register(x, 3, 255);
        Video.register(x, 4, 255);
        Video.register(x, 5, 240);
        Video.register(x, 7, 255);
        Video.bytes(x, 0, 208);
        Video.bytes(x, 480, 8, 0);
        Video.bytes(x, 511, 0xCD);
        Video.bytes(x, 508, 0x12, 0x34);
        Video.bytes(x, 256, 0xAA);
        Video.bytes(x, 256 + 64, 0xF0);
        x.scan();
        DUE.is("tables at the end", Video.line(x, 0, 0, 16), "3333444412121212");
        Video.register(x, 4, 254);
        Video.bytes(x, 64, 0, 0x0F);
        x.scan();
        DUE.is("patterns at 0", Video.line(x, 1, 0, 8), "44443333");
        Video.register(x, 2, 16 + 4);
        Video.bytes(x, 128, 8);
        Video.bytes(x, 66, 0x81);
        x.scan();
        DUE.is("names at 128", Video.line(x, 2, 0, 8), "34444443");
        Video.register(x, 3, 128 + 20);
        Video.bytes(x, 81, 0x65);
        Video.bytes(x, 67, 0x18);
        x.scan();
        DUE.is("colors at 80", Video.line(x, 3, 0, 8), "55566555");
    }

    private static void tileColorZero() {
        SlotScreen x = withTiles(14, 64, 0);
        Video.bytes(x, 448, 0, 8, 16);
        Video.bytes(x, 0, 0xF0);
        Video.bytes(x, 64, 0xF0);
        Video.bytes(x, 128, 0xF0);
        Video.bytes(x, 256, 0x10, 0x02, 0x00);
        x.scan();
        DUE.is("color 0", Video.line(x, 0, 0, 24), "1111777777772222" + "77777777");
        Video.register(x, 7, 0x30);
        Video.bytes(x, 1, 0xF0);
        x.scan();
        DUE.is("back color 0", Video.line(x, 1, 0, 8), "11110000");
    }

    private static void linesKeepWhatTheyHad() {
        SlotScreen x = new SlotScreen();
        for (int i = 0; i < 40; i++) {
            Video.register(x, 7, i % 13 + 1);
            x.scan();
        }
        for (int y = 0; y < 32; y++) {
            int last = y < 8 ? y + 32 : y;
            DUE.is("line " + y, x.pixel(5, y), last % 13 + 1);
        }
        Video.register(x, 7, 15);
        DUE.is("a pixel stays until it is scanned", x.pixel(5, 8), 8 % 13 + 1);
    }

    private static void spriteTop() {
        int[] tops = {0, 1, 10, 22, 23, 30, 31, 100, 207, 209, 223};
        for (int y : tops) {
            SlotScreen x = withSprites(0, y, 3, 0, 4, 208);
            Video.bytes(x, 128, 255, 255, 255, 255, 255, 255, 255, 255);
            Video.scan(x, 32);
            for (int l = 0; l < 32; l++) {
                boolean has = l >= y + 1 && l < y + 9;
                DUE.is("Y " + y + " line " + l, x.pixel(3, l), has ? 4 : 7);
                DUE.is("left of it", x.pixel(2, l), 7);
                DUE.is("Y " + y + " end of line " + l, x.pixel(10, l), has ? 4 : 7);
                DUE.is("right of it", x.pixel(11, l), 7);
            }
        }
    }

    private static void spriteAbove() {
        int[] ys = {255, 254, 250, 248, 247, 240, 225, 224};
        for (int y : ys) {
            for (int r1 = 0; r1 < 4; r1++) {
                SlotScreen x = withSprites(r1, y, 0, 0, 4, 208);
                for (int i = 0; i < 16; i++) {
                    x.out(1, 128 + i);
                    x.out(1, 64);
                    x.out(0, 128);
                }
                Video.scan(x, 32);
                int height = (r1 < 2 ? 8 : 16) * (r1 % 2 + 1);
                for (int l = 0; l < 32; l++) {
                    DUE.is("Y " + y + " R1 " + r1 + " line " + l, x.pixel(0, l), l < y - 255 + height ? 4 : 7);
                }
            }
        }
    }

    private static void spriteLeft() {
        SlotScreen x = withSprites(0, 255, 60, 0, 4, 0, 31, 0, 128 + 5, 208);
        Video.bytes(x, 128, 0x9F, 0x9F, 0x81);
        x.scan();
        DUE.is("X 60", Video.line(x, 0, 0, 64), "7".repeat(60) + "4774");
        x.scan();
        DUE.is("X 31 - 32", Video.line(x, 1, 0, 64), "7755555" + "7".repeat(53) + "4774");
        SlotScreen y = withSprites(0, 255, 24, 0, 128 + 4, 255, 25, 0, 128 + 5, 255, 63, 0, 6, 255, 64, 0, 8);
        Video.bytes(y, 128, 255, 208);
        y.scan();
        DUE.is("X 24 - 32, 25 - 32, 63, 64", Video.line(y, 0, 0, 64), "5" + "7".repeat(62) + "6");
        SlotScreen v = withSprites(0, 255, 40, 0, 127, 255, 40, 0, 128 + 1, 208);
        Video.bytes(v, 128, 0xC0);
        v.scan();
        DUE.is("C 127 and 129", Video.line(v, 0, 0, 64), "7".repeat(8) + "11" + "7".repeat(30) + "ff" + "7".repeat(22));
        SlotScreen z = withSprites(0, 255, 255, 0, 4, 255, 95, 0, 255, 255, 32, 0, 128 + 6, 208);
        Video.bytes(z, 128, 255);
        z.scan();
        DUE.is("X 255, 95 - 32, 32 - 32", Video.line(z, 0, 0, 64), "66666666" + "7".repeat(55) + "f");
    }

    private static void spriteEnd() {
        SlotScreen x = withSprites(0, 255, 0, 0, 1, 208, 8, 0, 2, 255, 16, 0, 3, 255, 24, 0, 4);
        Video.bytes(x, 128, 255, 255);
        x.scan();
        DUE.is("208 ends", Video.line(x, 0, 0, 32), "11111111" + "7".repeat(24));
        Video.bytes(x, 260, 209);
        x.scan();
        DUE.is("209 does not", Video.line(x, 1, 0, 32), "11111111" + "77777777" + "33333333" + "44444444");
        // Sprite 7 is the last; the four bytes behind it are no sprite.
        SlotScreen y = withSprites(0);
        Video.bytes(y, 256 + 28, 255, 0, 0, 5, 255, 8, 0, 6);
        for (int k = 0; k < 7; k++) {
            Video.bytes(y, 256 + 4 * k, 100);
        }
        Video.bytes(y, 128, 255);
        y.scan();
        DUE.is("sprite 7", Video.line(y, 0, 0, 16), "5555555577777777");
        // 208 in the first place, before four that would be on the line.
        SlotScreen z = withSprites(0, 208, 0, 0, 1, 255, 0, 0, 1, 255, 0, 0, 1, 255, 0, 0, 1, 255, 0, 0, 1, 255, 0, 0, 1);
        Video.bytes(z, 128, 255);
        z.scan();
        DUE.is("no sprite", z.pixel(0, 0), 7);
        DUE.is("no status", z.chip(8), 0);
    }

    private static void spriteTables() {
        SlotScreen x = new SlotScreen();
        Video.register(x, 1, 64);
        Video.register(x, 5, 16 + 15);
        Video.register(x, 6, 252 + 3);
        Video.bytes(x, 480, 255, 0, 16 + 2, 0x71, 208);
        Video.bytes(x, 384 + 16, 0xC3, 0x3C, 0x01);
        x.scan();
        DUE.is("tables at the end", Video.line(x, 0, 0, 9), "110000110");
        Video.register(x, 6, 252 + 2);
        Video.bytes(x, 256 + 16, 0, 0xA5);
        x.scan();
        DUE.is("patterns at 256", Video.line(x, 1, 0, 9), "101001010");
        Video.register(x, 5, 16 + 6);
        Video.bytes(x, 192, 255, 1, 15, 9, 208);
        Video.bytes(x, 256 + 8 * 15 + 2, 0x11);
        x.scan();
        DUE.is("sprites at 192", Video.line(x, 2, 0, 9), "000090009");
    }

    private static void largeSprites() {
        for (int n = 4; n < 8; n++) {
            SlotScreen x = withSprites(2, 1, 10, 0xF0 + n, 4, 208);
            // Number 4's 16 by 16: the left half at 160, the right one 16 behind it.
            Video.bytes(x, 160, 0x80, 0xF0, 3, 4, 5, 6, 7, 8, 9, 10, 11, 12, 13, 14, 15, 0x0F,
                    0x01, 0xAA, 2, 3, 4, 5, 6, 7, 8, 9, 10, 11, 12, 13, 14, 0xFF);
            Video.scan(x, 20);
            DUE.is("line 1", Video.line(x, 1, 9, 27), "7".repeat(18));
            DUE.is("line 2", Video.line(x, 2, 9, 27), "747777777777777747");
            DUE.is("line 3", Video.line(x, 3, 9, 27), "744447777474747477");
            DUE.is("line 17", Video.line(x, 17, 9, 27), "77777" + "4".repeat(12) + "7");
            DUE.is("line 18", Video.line(x, 18, 9, 27), "7".repeat(18));
        }
    }

    private static void doubledSprites() {
        SlotScreen x = withSprites(1, 3, 5, 1, 4, 208);
        Video.bytes(x, 136, 0x81, 0xA0, 0, 0, 0, 0, 0, 0xFF, 0xFF);
        Video.scan(x, 24);
        DUE.is("line 3", Video.line(x, 3, 4, 22), "7".repeat(18));
        DUE.is("line 4", Video.line(x, 4, 4, 22), "744777777777777447");
        DUE.is("line 5", Video.line(x, 5, 4, 22), "744777777777777447");
        DUE.is("line 6", Video.line(x, 6, 4, 22), "744774477777777777");
        DUE.is("line 7", Video.line(x, 7, 4, 22), "744774477777777777");
        DUE.is("line 8", Video.line(x, 8, 4, 22), "7".repeat(18));
        DUE.is("line 19", Video.line(x, 19, 4, 22), "7" + "4".repeat(16) + "7");
        DUE.is("line 20", Video.line(x, 20, 4, 22), "7".repeat(18));
        SlotScreen y = withSprites(3, 255, 31, 3, 132, 208);
        Video.bytes(y, 128, 0x80, 0xC0, 0, 0, 0, 0, 0, 0, 0, 0, 0, 0, 0, 0, 0, 0xC0,
                0x01, 0x80, 0, 0, 0, 0, 0, 0, 0, 0, 0, 0, 0, 0, 0, 0x01);
        Video.scan(y, 32);
        DUE.is("large line 0", Video.line(y, 0, 0, 34), "4" + "7".repeat(28) + "44777");
        DUE.is("large line 2", Video.line(y, 2, 0, 34), "444" + "7".repeat(12) + "44" + "7".repeat(17));
        DUE.is("large line 3", Video.line(y, 3, 0, 34), "444" + "7".repeat(12) + "44" + "7".repeat(17));
        DUE.is("large line 31", Video.line(y, 31, 0, 34), "444" + "7".repeat(26) + "44777");
        DUE.is("large line 29", Video.line(y, 29, 0, 34), "7".repeat(34));
    }

    private static void fourOnALine() {
        SlotScreen x = withSprites(0, 255, 0, 0, 1, 50, 0, 0, 9, 255, 8, 0, 2, 255, 16, 0, 3, 255, 24, 0, 4, 0, 32, 0, 5,
                255, 40, 0, 6, 255, 48, 0, 8);
        Video.bytes(x, 128, 255, 255, 255);
        x.scan();
        DUE.is("four of six", Video.line(x, 0, 0, 64), "1111111122222222333333334444444477777777" + "7".repeat(24));
        DUE.is("the fifth is 6", x.chip(8), 64 + 6);
        x.in(1);
        x.scan();
        DUE.is("four of seven", Video.line(x, 1, 0, 64), "1111111122222222333333334444444477777777" + "7".repeat(24));
        DUE.is("the fifth is 5", x.chip(8), 64 + 5);
        SlotScreen y = withSprites(0, 255, 0, 0, 1, 255, 8, 0, 2, 255, 16, 0, 3, 255, 24, 0, 4, 208);
        Video.bytes(y, 128, 255, 255, 255);
        y.scan();
        DUE.is("four are no fifth", y.chip(8), 0);
        DUE.is("the fourth is drawn", y.pixel(24, 0), 4);
    }

    private static void fifthIsKept() {
        SlotScreen x = withSprites(0, 255, 0, 0, 1, 255, 8, 0, 1, 255, 16, 0, 1, 255, 24, 0, 1, 0, 32, 0, 1, 255, 40, 0, 1, 208);
        Video.scan(x, 1);
        DUE.is("line 0", x.chip(8), 64 + 5);
        Video.scan(x, 1);
        DUE.is("line 1 leaves it", x.chip(8), 64 + 5);
        DUE.is("in(1)", x.in(1), 64 + 5);
        DUE.is("the number stays", x.chip(8), 5);
        Video.scan(x, 1);
        DUE.is("line 2 is new", x.chip(8), 64 + 4);
        Video.scan(x, 29);
        DUE.is("with bit 7", x.chip(8), 128 + 64 + 4);
        Video.scan(x, 1);
        DUE.is("line 0 leaves it", x.chip(8), 128 + 64 + 4);
        x.in(1);
        Video.scan(x, 6);
        DUE.is("line 6", x.in(1), 64 + 4);
        Video.scan(x, 1);
        DUE.is("line 7", x.in(1), 64 + 4);
        Video.scan(x, 2);
        DUE.is("lines 8 and 9 have none", x.in(1), 4);
    }

    private static void fifthNeedsNoColorOrColumn() {
        SlotScreen x = withSprites(0, 255, 200, 0, 1, 255, 0, 0, 128 + 1, 255, 0, 1, 1, 255, 0, 0, 0, 255, 0, 0, 1, 208);
        Video.bytes(x, 128, 255);
        x.scan();
        DUE.is("fifth", x.chip(8), 64 + 4);
        DUE.is("the fifth isn't drawn", x.pixel(0, 0), 7);
    }

    private static void touching() {
        SlotScreen x = withSprites(0, 255, 10, 0, 1, 255, 17, 0, 2, 208);
        Video.bytes(x, 128, 0xFE, 0x01, 0x81, 0x7F);
        x.scan();
        DUE.is("beside one another", x.chip(8), 0);
        x.scan();
        DUE.is("bits that are 0", x.chip(8), 0);
        x.scan();
        DUE.is("a bit on a bit", x.chip(8), 32);
        x.in(1);
        x.scan();
        DUE.is("not on this line", x.chip(8), 0);
        int[][] colors = {{0, 0}, {0, 5}, {5, 0}, {5, 5}};
        for (int[] pair : colors) {
            SlotScreen y = withSprites(0, 255, 10, 0, pair[0], 255, 17, 0, pair[1], 208);
            Video.bytes(y, 128, 255);
            y.scan();
            DUE.is("colors " + pair[0] + " " + pair[1], y.chip(8), 32);
        }
        int[][] places = {{64, 4, 64, 4}, {24, 128, 24, 128}, {70, 1, 66, 1}, {31, 129, 24, 129}};
        for (int[] p : places) {
            SlotScreen y = withSprites(0, 255, p[0], 0, p[1], 255, p[2], 0, p[3], 208);
            Video.bytes(y, 128, 0x80);
            y.scan();
            DUE.is("off the screen", y.chip(8), 0);
        }
        int[] edges = {0, 63};
        for (int edge : edges) {
            SlotScreen y = withSprites(0, 255, edge, 0, 1, 255, edge, 0, 1, 208);
            Video.bytes(y, 128, 0x80);
            y.scan();
            DUE.is("at column " + edge, y.chip(8), 32);
        }
        SlotScreen z = withSprites(0, 255, 0, 0, 1, 255, 10, 0, 1, 255, 20, 0, 1, 255, 30, 0, 1, 255, 30, 0, 1, 208);
        Video.bytes(z, 128, 255);
        z.scan();
        DUE.is("the fifth isn't drawn, so it doesn't touch", z.chip(8), 64 + 4);
    }

    private static void spriteColors() {
        // Sprites 0 .. 3 are eight wide at 0, 2, 4, 6; the first and third have color 0.
        SlotScreen x = withSprites(0, 255, 0, 0, 0, 255, 2, 0, 2, 255, 4, 0, 0x70, 255, 6, 0, 0x74, 208);
        Video.bytes(x, 128, 255, 0x80);
        x.scan();
        DUE.is("color 0 is seen through", Video.line(x, 0, 0, 16), "7722222222444477");
        x.scan();
        DUE.is("single columns", Video.line(x, 1, 0, 16), "7727774777777777");
        SlotScreen y = withSprites(0, 255, 0, 0, 3, 255, 4, 0, 5, 208);
        Video.bytes(y, 128, 255, 0xF0);
        y.scan();
        DUE.is("the first is before", Video.line(y, 0, 0, 13), "3333333355557");
        y.scan();
        DUE.is("where it has a bit", Video.line(y, 1, 0, 13), "3333555577777");
    }
}
