/**
 * The boundary cases of the sprites, a sentence of the document at a time: the terms that promises
 * 10 scan and 11 pixel rest on.
 */
public final class SpriteEdgesTest {
    private static final Due DUE = new Due();
    private static final int[] FULL = {255, 255, 255, 255, 255, 255, 255, 255, 255, 255, 255, 255, 255, 255, 255, 255,
        255, 255, 255, 255, 255, 255, 255, 255, 255, 255, 255, 255, 255, 255, 255, 255};

    public static void main(String[] args) {
        tableByR5Modulo16();
        eightSpritesOfFourBytes();
        y208EndsTheSprites();
        y208EndsTheFifth();
        topLine();
        leftColumn();
        leftColumnFromC128On();
        sizes();
        rowsOf8ByNModulo16();
        rowsOf8ByR6Modulo4();
        numbersOf16WithoutTwoBits();
        rowsOf16ByR6Modulo4();
        halvesOf16();
        fourAreDrawn();
        fourAreNoFifth();
        fifthIsNoted();
        fifthIsKeptUntilRead();
        fifthReplacesFiveBits();
        fifthIsCountedOnItsLines();
        touchAtAColumnOfTheScreen();
        touchOfBitsAlone();
        touchOfAnyTwo();
        touchOfTheDrawnAlone();
        touchWhateverTheColors();
        touchStaysUntilRead();
        colorIsModulo16();
        colorZeroIsSeenThrough();
        firstIsBefore();
        elseTheTiles();
        DUE.end();
    }

    /** The back color is 7, tiles are empty, the sprite table is at 256, the patterns are at 128. */
    private static SlotScreen withSprites(int r1, int... table) {
        SlotScreen x = new SlotScreen();
        Video.register(x, 1, 64 + r1);
        Video.register(x, 5, 8);
        Video.register(x, 6, 1);
        Video.register(x, 7, 7);
        Video.bytes(x, 256, table);
        return x;
    }

    private static int height(int r1) {
        return (r1 / 2 % 2 == 0 ? 8 : 16) * (r1 % 2 == 0 ? 1 : 2);
    }

    private static void tableByR5Modulo16() {
        DUE.by("from 32 * (R5 mod 16) + 4 k on");
        for (int r5 = 0; r5 < 256; r5++) {
            SlotScreen x = new SlotScreen();
            int table = 32 * (r5 % 16);
            // Tiles and patterns are in the half where the sprites aren't.
            int rest = table < 256 ? 256 : 0;
            Video.register(x, 1, 64);
            Video.register(x, 2, rest / 32 + 4);
            Video.register(x, 3, rest / 4 + 40);
            Video.register(x, 4, rest / 256);
            Video.register(x, 5, r5);
            Video.register(x, 6, rest / 128);
            Video.register(x, 7, 7);
            Video.bytes(x, rest + 8, 255);
            Video.bytes(x, table, 255, 5, 1, 3, 208);
            x.scan();
            DUE.is("sprite 0, R5 " + r5, Video.line(x, 0, 0, 18), "777773333333377777");
            Video.bytes(x, table, 209, 5, 1, 3, 209, 0, 0, 0, 209, 0, 0, 0, 209, 0, 0, 0);
            Video.bytes(x, table + 16, 209, 0, 0, 0, 209, 0, 0, 0, 209, 0, 0, 0, 0, 9, 1, 4);
            x.scan();
            DUE.is("sprite 7, R5 " + r5, Video.line(x, 1, 0, 18), "777777777444444447");
        }
    }

    private static void eightSpritesOfFourBytes() {
        DUE.by("SPRITES 0 .. 7: sprite k has four bytes, .. Y, X, N, C");
        for (int k = 0; k <= 8; k++) {
            SlotScreen x = withSprites(0);
            for (int i = 0; i < 8; i++) {
                Video.bytes(x, 256 + 4 * i, 100);
            }
            Video.bytes(x, 256 + 4 * k, 2, 20, 5, 9);
            Video.bytes(x, 128 + 8 * 5, 0xC1);
            Video.scan(x, 4);
            String sprite = k < 8 ? "99777779" : "77777777";
            DUE.is("sprite " + k, Video.line(x, 3, 19, 29), "7" + sprite + "7");
            DUE.is("above it", Video.line(x, 2, 0, 64), "7".repeat(64));
        }
    }

    private static void y208EndsTheSprites() {
        DUE.by("If Y is 208, this one and all behind it aren't there");
        int[] ends = {206, 207, 208, 209, 210, 223};
        for (int end : ends) {
            for (int k = 0; k < 8; k++) {
                SlotScreen x = withSprites(0);
                // Two others at most are on the line, one before and one behind the k-th.
                for (int i = 0; i < 8; i++) {
                    Video.bytes(x, 256 + 4 * i, i == k - 1 || i == k + 1 ? 255 : 100, 8 * i, 0, i + 8);
                }
                Video.bytes(x, 256 + 4 * k, end);
                Video.bytes(x, 128, 255);
                x.scan();
                if (k > 0) {
                    DUE.is("before Y " + end + " of " + k, x.pixel(8 * (k - 1), 0), k + 7);
                }
                if (k < 7) {
                    DUE.is("behind Y " + end + " of " + k, x.pixel(8 * (k + 1), 0), end == 208 ? 7 : k + 9);
                }
            }
        }
    }

    private static void y208EndsTheFifth() {
        DUE.by("If Y is 208, this one and all behind it aren't there");
        for (int k = 0; k < 8; k++) {
            SlotScreen x = withSprites(0);
            for (int i = 0; i < 8; i++) {
                Video.bytes(x, 256 + 4 * i, i == k ? 208 : 255, 8 * i, 0, 1);
            }
            Video.bytes(x, 128, 255);
            x.scan();
            DUE.is("the status with 208 in " + k, x.chip(8), k > 4 ? 64 + 4 : 0);
            for (int i = 0; i < 8; i++) {
                DUE.is("sprite " + i + " with 208 in " + k, x.pixel(8 * i, 0), i < k && i < 4 ? 1 : 7);
            }
        }
    }

    private static void topLine() {
        DUE.by("Its top line is Y + 1, if Y is below 224, else Y - 255");
        for (int y = 0; y < 256; y++) {
            int top = y < 224 ? y + 1 : y - 255;
            for (int r1 = 0; r1 < 4; r1++) {
                int zoom = r1 % 2 + 1;
                SlotScreen x = withSprites(r1, y, 0, 0, 4, 208);
                // Row r has its only bit in column r.
                Video.bytes(x, 128, 128, 64, 32, 16, 8, 4, 2, 1);
                if (r1 >= 2) {
                    Video.bytes(x, 128 + 24, 128, 64, 32, 16, 8, 4, 2, 1);
                }
                Video.scan(x, 32);
                for (int line = 0; line < 32; line++) {
                    int row = line >= top ? (line - top) / zoom : -1;
                    boolean has = row >= 0 && row < height(r1) / zoom && y != 208;
                    String at = "Y " + y + " R1 " + r1 + " line " + line;
                    for (int c = 0; c < 32; c += 4) {
                        DUE.is(at + " column " + c, x.pixel(c, line), has && c / zoom == row ? 4 : 7);
                    }
                    if (has) {
                        DUE.is(at + " row " + row, x.pixel(row * zoom, line), 4);
                    }
                }
            }
        }
    }

    private static void leftColumn() {
        DUE.by("its left column X, or, if C is 128 or more, X - 32");
        int[] looks = {4, 127, 128 + 4, 255};
        for (int look : looks) {
            String color = look % 16 == 15 ? "f" : "4";
            for (int column = 0; column < 256; column++) {
                for (int r1 = 0; r1 < 4; r1++) {
                    SlotScreen x = withSprites(r1, 255, column, 0, look, 208);
                    Video.bytes(x, 128, 0xB1);
                    Video.bytes(x, 128 + 16, 0x8D);
                    x.scan();
                    String bits = r1 < 2 ? "10110001" : "1011000110001101";
                    int left = look < 128 ? column : column - 32;
                    StringBuilder want = new StringBuilder();
                    for (int c = 0; c < 64; c++) {
                        int at = c >= left ? (c - left) / (r1 % 2 + 1) : -1;
                        boolean one = at >= 0 && at < bits.length() && bits.charAt(at) == '1';
                        want.append(one ? color : "7");
                    }
                    DUE.is("X " + column + " C " + look + " R1 " + r1, Video.line(x, 0, 0, 64), want.toString());
                }
            }
        }
    }

    private static void leftColumnFromC128On() {
        DUE.by("its left column X, or, if C is 128 or more, X - 32");
        // C 128 has color 0, so only its touching another sprite tells where it is.
        for (int look = 0; look < 256; look++) {
            DUE.is("C " + look + " at X", twoAt(0, 40, look, 40, 1).chip(8), look < 128 ? 32 : 0);
            DUE.is("C " + look + " at X - 32", twoAt(0, 40, look, 8, 1).chip(8), look < 128 ? 0 : 32);
        }
    }

    private static void sizes() {
        DUE.by("It is 8 by 8, or 16 by 16 if bit 1 of R1 is 1; if bit 0 of R1 is 1, "
                + "each of its pixels is two columns wide and two lines high");
        for (int r1 = 0; r1 < 256; r1++) {
            if (r1 / 64 % 2 == 1) {
                int size = height(r1);
                SlotScreen x = withSprites(0, 255, 0, 0, 4, 208);
                Video.register(x, 1, r1);
                Video.bytes(x, 128, FULL);
                Video.scan(x, 32);
                for (int i = 0; i < 32; i++) {
                    DUE.is("R1 " + r1 + " column " + i, x.pixel(i, 0), i < size ? 4 : 7);
                    DUE.is("R1 " + r1 + " line " + i, x.pixel(0, i), i < size ? 4 : 7);
                    DUE.is("R1 " + r1 + " corner " + i, x.pixel(i, i), i < size ? 4 : 7);
                }
            }
        }
    }

    private static void rowsOf8ByNModulo16() {
        DUE.by("A row of 8 is the byte at 128 * (R6 mod 4) + 8 (N mod 16) + row");
        for (int n = 0; n < 256; n++) {
            SlotScreen x = withSprites(0, 255, 0, n, 4, 208);
            for (int i = 0; i < 16; i++) {
                Video.bytes(x, 128 + 8 * i, 16 * i, 0, 0, 0, 0, 0, 0, i);
            }
            Video.scan(x, 9);
            DUE.is("row 0 of N " + n, Video.line(x, 0, 0, 9), bits(16 * (n % 16)) + "7");
            DUE.is("row 1 of N " + n, Video.line(x, 1, 0, 9), "777777777");
            DUE.is("row 7 of N " + n, Video.line(x, 7, 0, 9), bits(n % 16) + "7");
            DUE.is("no row 8 of N " + n, Video.line(x, 8, 0, 9), "777777777");
        }
    }

    /** A byte's bits, the highest first, in the sprite's color 4 and the back color 7. */
    private static String bits(int row) {
        StringBuilder s = new StringBuilder();
        for (int bit = 128; bit > 0; bit /= 2) {
            s.append(row / bit % 2 == 1 ? '4' : '7');
        }
        return s.toString();
    }

    private static void rowsOf8ByR6Modulo4() {
        DUE.by("A row of 8 is the byte at 128 * (R6 mod 4) + 8 (N mod 16) + row");
        for (int r6 = 0; r6 < 256; r6++) {
            SlotScreen x = withPatterns(0, r6, 15);
            for (int i = 0; i < 4; i++) {
                Video.bytes(x, 128 * i + 120, 0x90 + i, 0x30 + i);
            }
            Video.scan(x, 2);
            DUE.is("row 0 with R6 " + r6, Video.line(x, 0, 0, 9), bits(0x90 + r6 % 4) + "7");
            DUE.is("row 1 with R6 " + r6, Video.line(x, 1, 0, 9), bits(0x30 + r6 % 4) + "7");
        }
    }

    /** Sprite 0 of color 4 on line 0, by a table at 32; tiles are empty, their tables are at 64. */
    private static SlotScreen withPatterns(int r1, int r6, int n) {
        SlotScreen x = new SlotScreen();
        Video.register(x, 1, 64 + r1);
        Video.register(x, 2, 2);
        Video.register(x, 3, 16);
        Video.register(x, 5, 1);
        Video.register(x, 6, r6);
        Video.register(x, 7, 7);
        Video.bytes(x, 32, 255, 0, n, 4, 208);
        return x;
    }

    private static void numbersOf16WithoutTwoBits() {
        DUE.by("of 16 by 16, with M being N mod 16 without its lowest two bits");
        for (int n = 0; n < 256; n++) {
            SlotScreen x = withSprites(2, 255, 0, n, 4, 208);
            for (int i = 0; i < 16; i++) {
                Video.bytes(x, 128 + 8 * i, 16 * i + 1);
            }
            x.scan();
            int m = n % 16 / 4 * 4;
            DUE.is("N " + n, Video.line(x, 0, 0, 17), bits(16 * m + 1) + bits(16 * (m + 2) + 1) + "7");
        }
    }

    private static void rowsOf16ByR6Modulo4() {
        DUE.by("column c and row r have .. the byte at 128 * (R6 mod 4) + 8 M + r + ..");
        for (int r6 = 0; r6 < 256; r6++) {
            SlotScreen x = withPatterns(2, r6, 12);
            for (int i = 0; i < 4; i++) {
                Video.bytes(x, 128 * i + 96 + 15, 0x90 + i);
                Video.bytes(x, 128 * i + 112 + 15, 0x30 + i);
            }
            Video.scan(x, 16);
            DUE.is("row 15 with R6 " + r6, Video.line(x, 15, 0, 17),
                    bits(0x90 + r6 % 4) + bits(0x30 + r6 % 4) + "7");
        }
    }

    private static void halvesOf16() {
        DUE.by("column c and row r have bit 7 - c mod 8 of the byte at .. + r + (16 if c is above 7)");
        for (int row = 0; row < 16; row++) {
            for (int c = 0; c < 16; c++) {
                SlotScreen x = withSprites(2, 255, 0, 3, 4, 208);
                Video.bytes(x, 128 + row + (c > 7 ? 16 : 0), 128 >> c % 8);
                Video.scan(x, 17);
                for (int line = 0; line < 17; line++) {
                    String want = line == row ? "7".repeat(c) + "4" + "7".repeat(16 - c) : "7".repeat(17);
                    DUE.is("column " + c + ", row " + row + ", line " + line, Video.line(x, line, 0, 17), want);
                }
            }
        }
    }

    private static void fourAreDrawn() {
        DUE.by("those sprites that have it are gone through by numbers: the first four are DRAWN");
        // A bit of the number for each sprite: whether it is on line 0.
        for (int on = 0; on < 256; on++) {
            SlotScreen x = withSprites(0);
            StringBuilder want = new StringBuilder();
            int count = 0;
            int fifth = 0;
            for (int k = 0; k < 8; k++) {
                boolean has = (on >> k & 1) == 1;
                Video.bytes(x, 256 + 4 * k, has ? 255 : 0, 8 * k, 0, k + 8);
                count += has ? 1 : 0;
                fifth = has && count == 5 ? k : fifth;
                want.append((has && count <= 4 ? Integer.toHexString(k + 8) : "7").repeat(8));
            }
            Video.bytes(x, 128, 255);
            x.scan();
            DUE.is("sprites " + on, Video.line(x, 0, 0, 64), want.toString());
            DUE.is("the status by " + on, x.chip(8), count > 4 ? 64 + fifth : 0);
        }
    }

    /** So many sprites side by side, from sprite 0 on, all with line 0 as their top line. */
    private static SlotScreen sideBySide(int count) {
        SlotScreen x = withSprites(0);
        for (int k = 0; k < count; k++) {
            Video.bytes(x, 256 + 4 * k, 255, 8 * k, 0, 1);
        }
        if (count < 8) {
            Video.bytes(x, 256 + 4 * count, 208);
        }
        Video.bytes(x, 128, 255, 255, 255, 255, 255, 255, 255, 255);
        return x;
    }

    private static void fourAreNoFifth() {
        DUE.by("If there is a fifth one");
        for (int count = 0; count <= 8; count++) {
            SlotScreen x = sideBySide(count);
            for (int line = 0; line < 10; line++) {
                x.scan();
                DUE.is(count + " on line " + line, x.in(1), line < 8 && count > 4 ? 64 + 4 : count > 4 ? 4 : 0);
            }
        }
    }

    private static void fifthIsNoted() {
        DUE.by("and bit 6 of the status is 0: that becomes 1, and the status's lowest five bits this one's number");
        for (int fifth = 4; fifth < 8; fifth++) {
            SlotScreen x = withSprites(0);
            for (int k = 0; k < 8; k++) {
                boolean has = k >= fifth - 4 && k <= fifth;
                Video.bytes(x, 256 + 4 * k, has ? 255 : 100, 8 * k, 0, 1);
            }
            x.scan();
            DUE.is("the fifth being " + fifth, x.chip(8), 64 + fifth);
        }
        // Neither a color nor a bit nor a column of the screen is needed to be on a line.
        int[][] bare = {{200, 0, 1}, {0, 0, 0}, {0, 1, 1}, {0, 0, 128 + 1}};
        for (int[] b : bare) {
            SlotScreen x = withSprites(0);
            for (int k = 0; k < 5; k++) {
                Video.bytes(x, 256 + 4 * k, 255, b[0], b[1], b[2]);
            }
            Video.bytes(x, 276, 208);
            x.scan();
            DUE.is("a fifth one at X " + b[0] + " of color " + b[2], x.chip(8), 64 + 4);
        }
    }

    private static void fifthIsKeptUntilRead() {
        DUE.by("If there is a fifth one, and bit 6 of the status is 0");
        // Six are on line 0 but for sprite 0, which comes on line 1: the fifth is 5, then 4.
        SlotScreen x = sideBySide(6);
        Video.bytes(x, 256, 0);
        x.scan();
        DUE.is("line 0", x.chip(8), 64 + 5);
        x.scan();
        DUE.is("line 1, bit 6 being 1", x.chip(8), 64 + 5);
        DUE.is("in(1)", x.in(1), 64 + 5);
        DUE.is("the number behind it", x.chip(8), 5);
        x.scan();
        DUE.is("line 2, bit 6 being 0", x.chip(8), 64 + 4);
        Video.scan(x, 29);
        DUE.is("line 31 leaves it", x.chip(8), 128 + 64 + 4);
        x.scan();
        DUE.is("line 0 leaves it, bit 6 being 1", x.chip(8), 128 + 64 + 4);
        x.in(1);
        Video.scan(x, 31);
        DUE.is("a line without a fifth one leaves the number", x.in(1), 128 + 64 + 4);
        x.scan();
        DUE.is("line 0 again, bit 6 being 0", x.chip(8), 64 + 5);
    }

    private static void fifthReplacesFiveBits() {
        DUE.by("and the status's lowest five bits this one's number");
        for (int first = 4; first < 8; first++) {
            for (int second = 4; second < 8; second++) {
                SlotScreen x = withSprites(0);
                for (int k = 0; k < 8; k++) {
                    Video.bytes(x, 256 + 4 * k, k >= first - 4 && k <= first ? 255 : 100, 8 * k, 0, 1);
                }
                Video.scan(x, 32);
                DUE.is("the first", x.in(1), 128 + 64 + first);
                for (int k = 0; k < 8; k++) {
                    Video.bytes(x, 256 + 4 * k, k >= second - 4 && k <= second ? 255 : 100);
                }
                x.scan();
                DUE.is(second + " behind " + first, x.chip(8), 64 + second);
            }
        }
    }

    private static void fifthIsCountedOnItsLines() {
        DUE.by("On a line, those sprites that have it");
        // The last line that a sprite has and the first that it hasn't, for each size.
        for (int r1 = 0; r1 < 4; r1++) {
            SlotScreen x = sideBySide(5);
            Video.register(x, 1, 64 + r1);
            // All five end with line 30.
            int top = 31 - height(r1);
            for (int k = 0; k < 5; k++) {
                Video.bytes(x, 256 + 4 * k, (top + 255) % 256);
            }
            for (int line = 0; line < 32; line++) {
                x.scan();
                boolean has = line >= top && line <= 30;
                DUE.is("R1 " + r1 + " line " + line, x.in(1) / 64 % 2, has ? 1 : 0);
            }
        }
    }

    private static SlotScreen twoAt(int r1, int leftX, int leftC, int rightX, int rightC) {
        SlotScreen x = withSprites(r1, 255, leftX, 0, leftC, 255, rightX, 0, rightC, 208);
        Video.bytes(x, 128, 0x80);
        x.scan();
        return x;
    }

    private static void touchAtAColumnOfTheScreen() {
        DUE.by("Where two that are drawn both have a bit that is 1 at a column of the screen");
        for (int column = 0; column < 256; column++) {
            DUE.is("both at X " + column, twoAt(0, column, 1, column, 1).chip(8), column <= 63 ? 32 : 0);
            boolean within = column >= 32 && column <= 95;
            DUE.is("both at X " + column + " - 32", twoAt(0, column, 129, column, 129).chip(8), within ? 32 : 0);
            // Two columns wide: at 63 one of them is on the screen, at 31 - 32 the other.
            DUE.is("wide at X " + column, twoAt(1, column, 1, column, 1).chip(8), column <= 63 ? 32 : 0);
            within = column >= 31 && column <= 95;
            DUE.is("wide at X " + column + " - 32", twoAt(1, column, 129, column, 129).chip(8), within ? 32 : 0);
            within = column <= 63;
            DUE.is("one by X, one by X - 32", twoAt(0, column, 1, (column + 32) % 256, 129).chip(8), within ? 32 : 0);
        }
    }

    private static void touchOfBitsAlone() {
        DUE.by("both have a bit that is 1");
        for (int apart = 0; apart <= 20; apart++) {
            SlotScreen x = withSprites(0, 255, 20, 0, 1, 255, 20 + apart, 0, 2, 208);
            Video.bytes(x, 128, 255, 0x81, 0xAA, 0);
            x.scan();
            DUE.is("full rows " + apart + " apart", x.in(1), apart < 8 ? 32 : 0);
            x.scan();
            DUE.is("ends " + apart + " apart", x.in(1), apart == 0 || apart == 7 ? 32 : 0);
            x.scan();
            DUE.is("every second " + apart + " apart", x.in(1), apart < 8 && apart % 2 == 0 ? 32 : 0);
            x.scan();
            DUE.is("no bits " + apart + " apart", x.in(1), 0);
        }
        // One line apart: the lower one begins where the upper one ends.
        SlotScreen y = withSprites(0, 255, 20, 0, 1, 7, 20, 0, 2, 208);
        Video.bytes(y, 128, 255, 255, 255, 255, 255, 255, 255, 255);
        Video.scan(y, 31);
        DUE.is("line 8 behind line 7", y.chip(8), 0);
        Video.bytes(y, 260, 6);
        Video.scan(y, 9);
        DUE.is("both on line 7", y.in(1), 128 + 32);
    }

    private static void touchOfAnyTwo() {
        DUE.by("Where two that are drawn both have a bit that is 1");
        for (int one = 0; one < 4; one++) {
            for (int other = one + 1; other < 4; other++) {
                SlotScreen x = sideBySide(4);
                Video.bytes(x, 256 + 4 * other + 1, 8 * one + 7);
                x.scan();
                // Where the other goes to it may meet the next one as well; the bit is the same.
                DUE.is(one + " and " + other, x.chip(8), 32);
            }
        }
        DUE.is("none of four", afterOneLine(sideBySide(4)), 0);
        SlotScreen y = sideBySide(4);
        for (int k = 0; k < 4; k++) {
            Video.bytes(y, 256 + 4 * k + 1, 63);
        }
        DUE.is("all of four at the last column", afterOneLine(y), 32);
    }

    private static int afterOneLine(SlotScreen x) {
        x.scan();
        return x.chip(8);
    }

    private static void touchOfTheDrawnAlone() {
        DUE.by("Where two that are drawn ..");
        for (int k = 0; k < 4; k++) {
            SlotScreen x = sideBySide(6);
            Video.bytes(x, 256 + 16 + 1, 8 * k);
            Video.bytes(x, 256 + 20 + 1, 8 * k);
            DUE.is("the fifth and the sixth on sprite " + k, afterOneLine(x), 64 + 4);
        }
        // When one of the four before it is not on the line, the fifth is drawn, and touches.
        SlotScreen y = sideBySide(5);
        Video.bytes(y, 256, 0);
        Video.bytes(y, 256 + 16 + 1, 8);
        DUE.is("drawn as the fourth", afterOneLine(y), 32);
    }

    private static void touchWhateverTheColors() {
        DUE.by("bit 5 of the status becomes 1 (whatever their colors)");
        int[] colors = {0, 1, 15, 16, 0x70};
        for (int one : colors) {
            for (int other : colors) {
                DUE.is("colors " + one + " and " + other, twoAt(0, 10, one, 10, other).chip(8), 32);
            }
        }
    }

    private static void touchStaysUntilRead() {
        DUE.by("bit 5 of the status becomes 1");
        SlotScreen x = twoAt(0, 10, 1, 10, 1);
        Video.scan(x, 5);
        DUE.is("it stays on lines without a touch", x.chip(8), 32);
        DUE.is("in(1)", x.in(1), 32);
        Video.scan(x, 25);
        DUE.is("it is 0 until they touch again", x.chip(8), 0);
        x.scan();
        DUE.is("line 31", x.in(1), 128);
        x.scan();
        DUE.is("line 0", x.chip(8), 32);
    }

    private static void colorIsModulo16() {
        DUE.by("A pixel has the color C mod 16");
        for (int look = 0; look < 256; look++) {
            SlotScreen x = withSprites(0, 255, 40, 0, look, 208);
            Video.bytes(x, 128, 255);
            x.scan();
            int left = look < 128 ? 40 : 8;
            int want = look % 16 == 0 ? 7 : look % 16;
            DUE.is("C " + look, x.pixel(left, 0), want);
            DUE.is("C " + look + " at its end", x.pixel(left + 7, 0), want);
            DUE.is("C " + look + " beside it", x.pixel(48 - left, 0), 7);
        }
    }

    private static void colorZeroIsSeenThrough() {
        DUE.by("of the first that is drawn and has a bit that is 1 there and a color that isn't 0");
        // A bit of the number for each of four: whether it has a color.
        for (int colored = 0; colored < 16; colored++) {
            SlotScreen x = withSprites(0);
            int want = 7;
            for (int k = 3; k >= 0; k--) {
                boolean has = (colored >> k & 1) == 1;
                Video.bytes(x, 256 + 4 * k, 255, 30, 0, has ? k + 1 : 16 * (k + 1));
                want = has ? k + 1 : want;
            }
            Video.bytes(x, 128, 255);
            x.scan();
            DUE.is("with colors " + colored, Video.line(x, 0, 29, 39), "7" + ("" + want).repeat(8) + "7");
        }
        // The fifth isn't drawn, though the four before it have no color.
        SlotScreen y = withSprites(0, 255, 0, 0, 0, 255, 0, 0, 0, 255, 0, 0, 0, 255, 0, 0, 0, 255, 0, 0, 9, 208);
        Video.bytes(y, 128, 255);
        y.scan();
        DUE.is("under four without a color", Video.line(y, 0, 0, 9), "777777777");
    }

    private static void firstIsBefore() {
        DUE.by("A pixel has the color .. of the first that is drawn and has a bit that is 1 there");
        SlotScreen x = withSprites(0, 255, 12, 0, 1, 255, 8, 0, 2, 255, 4, 0, 3, 255, 0, 0, 4, 208);
        Video.bytes(x, 128, 255, 0x88);
        x.scan();
        DUE.is("full rows", Video.line(x, 0, 0, 21), "444433332222111111117");
        x.scan();
        DUE.is("some bits", Video.line(x, 1, 0, 21), "477737772777177717777");
    }

    private static void elseTheTiles() {
        DUE.by("else the tile's");
        SlotScreen x = withSprites(0, 255, 4, 0, 9, 255, 20, 0, 0, 208);
        // Tiles of name 1, its pattern at 8, its colors at 96, which shows 5 and the back color.
        Video.register(x, 2, 2);
        Video.register(x, 3, 24);
        Video.bytes(x, 64, 1, 1, 1, 1, 1, 1, 1, 1);
        Video.bytes(x, 8, 0xF0);
        Video.bytes(x, 96, 0x50);
        Video.bytes(x, 128, 0xAA);
        x.scan();
        DUE.is("under bits and between them", Video.line(x, 0, 0, 32), "55559797" + "95957777" + "55557777" + "55557777");
    }
}
