/**
 * The boundary cases of the screen's lines and tiles, a sentence of the document at a time: the
 * terms, and promises 1 a new object, 10 scan and 11 pixel.
 */
public final class ScreenEdgesTest {
    private static final Due DUE = new Due();
    private static final int[] FAR_OUT = {Integer.MIN_VALUE, -64, 128, Integer.MAX_VALUE};

    public static void main(String[] args) {
        lineZeroIsScannedFirst();
        lineZeroIsNextBehind31();
        frameBitBehind31();
        callNumber512Counts();
        pixelColumns();
        pixelLines();
        allPixelsAreZeroAtFirst();
        pixelsAreOfTheLastScan();
        linesAreDrawnByWhatTheChipHasThen();
        bit6OfR1();
        backColorIsModulo16();
        nothingMoreOnABlankLine();
        tilesAre8By4();
        tileNamesByR2Modulo16();
        namesAreModulo32();
        patternsByR4Modulo2();
        rowsOfAPattern();
        highestBitIsLeftmost();
        colorsByR3Modulo128();
        colorsAreOfEightNames();
        colorsAreHalvesOfAByte();
        colorZeroIsTheBackColor();
        DUE.end();
    }

    private static void lineZeroIsScannedFirst() {
        DUE.by("SlotScreen(): .. line 0 is scanned next");
        DUE.is("scan()", new SlotScreen().scan(), 0);
        SlotScreen x = new SlotScreen();
        Video.register(x, 1, 255);
        DUE.is("scan() with R1 255", x.scan(), 0);
        DUE.is("scan() again", x.scan(), 1);
        DUE.is("another object's scan()", new SlotScreen().scan(), 0);
    }

    private static void lineZeroIsNextBehind31() {
        DUE.by("scan: Scans the next line: its number .. When line 31 was scanned .. line 0 is next");
        int[] r1s = {0, 64};
        for (int r1 : r1s) {
            SlotScreen x = new SlotScreen();
            Video.register(x, 1, r1);
            for (int i = 0; i < 130; i++) {
                DUE.is("scan " + i + " with R1 " + r1, x.scan(), i % 32);
            }
        }
    }

    private static void frameBitBehind31() {
        DUE.by("When line 31 was scanned bit 7 of the status becomes 1");
        int[] r1s = {0, 64, 191, 255};
        for (int r1 : r1s) {
            SlotScreen x = new SlotScreen();
            Video.register(x, 1, r1);
            Video.bytes(x, 0, 208);
            for (int frame = 0; frame < 3; frame++) {
                for (int line = 0; line < 31; line++) {
                    x.scan();
                    DUE.is("behind line " + line + " with R1 " + r1, x.chip(8), 0);
                }
                DUE.is("line 31", x.scan(), 31);
                DUE.is("behind line 31 with R1 " + r1, x.chip(8), 128);
                DUE.is("line 0", x.scan(), 0);
                DUE.is("it stays with line 0", x.chip(8), 128);
                DUE.is("in(1)", x.in(1), 128);
                Video.scan(x, 31);
                DUE.is("it is 1 again", x.in(1), 128);
            }
        }
    }

    private static void callNumber512Counts() {
        DUE.by("An object is used for at most 512 calls after it has been made");
        SlotScreen x = new SlotScreen();
        for (int i = 0; i < 511; i++) {
            x.scan();
        }
        DUE.is("scan() as call 512", x.scan(), 31);
        SlotScreen y = new SlotScreen();
        y.plug(0, 0, 1, 0);
        for (int i = 0; i < 510; i++) {
            y.write(255, i % 256);
        }
        DUE.is("read(255) as call 512", y.read(255), 509 % 256);
    }

    private static SlotScreen withBack(int color) {
        SlotScreen x = new SlotScreen();
        Video.register(x, 7, color);
        Video.scan(x, 32);
        return x;
    }

    private static void pixelColumns() {
        DUE.by("THE SCREEN has 64 columns .. pixel: NONE if there is none such");
        SlotScreen x = withBack(9);
        for (int y = 0; y < 32; y++) {
            DUE.is("pixel(0, " + y + ")", x.pixel(0, y), 9);
            DUE.is("pixel(63, " + y + ")", x.pixel(63, y), 9);
            DUE.is("pixel(-1, " + y + ")", x.pixel(-1, y), SlotScreen.NONE);
            DUE.is("pixel(64, " + y + ")", x.pixel(64, y), SlotScreen.NONE);
            for (int no : FAR_OUT) {
                DUE.is("pixel(" + no + ", " + y + ")", x.pixel(no, y), SlotScreen.NONE);
            }
        }
    }

    private static void pixelLines() {
        DUE.by("THE SCREEN has .. 32 lines .. pixel: NONE if there is none such");
        SlotScreen x = withBack(9);
        for (int c = 0; c < 64; c += 7) {
            DUE.is("pixel(" + c + ", 0)", x.pixel(c, 0), 9);
            DUE.is("pixel(" + c + ", 31)", x.pixel(c, 31), 9);
            DUE.is("pixel(" + c + ", -1)", x.pixel(c, -1), SlotScreen.NONE);
            DUE.is("pixel(" + c + ", 32)", x.pixel(c, 32), SlotScreen.NONE);
            for (int no : FAR_OUT) {
                DUE.is("pixel(" + c + ", " + no + ")", x.pixel(c, no), SlotScreen.NONE);
                DUE.is("pixel(" + no + ", " + no + ")", x.pixel(no, no), SlotScreen.NONE);
            }
        }
        DUE.is("pixel(-1, 32)", x.pixel(-1, 32), SlotScreen.NONE);
        DUE.is("pixel(64, -1)", x.pixel(64, -1), SlotScreen.NONE);
    }

    private static void allPixelsAreZeroAtFirst() {
        DUE.by("pixels with colors 0 .. 15, all 0 at first");
        for (int y = 0; y < 32; y++) {
            SlotScreen x = new SlotScreen();
            Video.register(x, 7, 15);
            DUE.is("line " + y, Video.line(x, y, 0, 64), "0".repeat(64));
        }
    }

    private static void pixelsAreOfTheLastScan() {
        DUE.by("pixel: The color that a pixel had when it was scanned last");
        SlotScreen x = new SlotScreen();
        Video.register(x, 7, 15);
        x.scan();
        DUE.is("line 0 is scanned", x.pixel(0, 0), 15);
        DUE.is("its end, too", x.pixel(63, 0), 15);
        DUE.is("line 1 is not", x.pixel(0, 1), 0);
        DUE.is("line 31 is not", x.pixel(63, 31), 0);
        Video.register(x, 7, 3);
        DUE.is("a register changes no pixel", x.pixel(0, 0), 15);
        Video.scan(x, 31);
        DUE.is("line 31", x.pixel(63, 31), 3);
        DUE.is("line 0 is as it was", x.pixel(0, 0), 15);
        x.scan();
        DUE.is("line 0 is scanned again", x.pixel(0, 0), 3);
    }

    private static void linesAreDrawnByWhatTheChipHasThen() {
        DUE.by("A line that is scanned is drawn by what the chip has then");
        SlotScreen x = withTiles(0, 16, 1);
        Video.bytes(x, 64, 0x12);
        Video.bytes(x, 256, 0xF0, 0xF0, 0xF0);
        x.scan();
        DUE.is("line 0", Video.line(x, 0, 0, 8), "11112222");
        Video.bytes(x, 64, 0x34);
        DUE.is("line 0 still", Video.line(x, 0, 0, 8), "11112222");
        x.scan();
        DUE.is("line 1", Video.line(x, 1, 0, 8), "33334444");
        DUE.is("line 0 still", Video.line(x, 0, 0, 8), "11112222");
        // A byte that waits is no register yet.
        x.out(1, 0);
        x.scan();
        DUE.is("line 2", Video.line(x, 2, 0, 8), "33334444");
        x.out(1, 129);
        x.scan();
        DUE.is("line 3 is blank", Video.line(x, 3, 0, 8), "77777777");
    }

    private static void bit6OfR1() {
        DUE.by("if bit 6 of R1 is 0, all of it has the BACK color");
        for (int r1 = 0; r1 < 256; r1++) {
            SlotScreen x = withTiles(0, 16, 1);
            Video.bytes(x, 64, 0x12);
            Video.bytes(x, 256, 0xF0);
            Video.register(x, 1, r1);
            x.scan();
            boolean shown = r1 / 64 % 2 == 1;
            DUE.is("R1 " + r1, Video.line(x, 0, 0, 64), shown ? "11112222".repeat(8) : "7".repeat(64));
        }
    }

    private static void backColorIsModulo16() {
        DUE.by("the BACK color (R7 mod 16)");
        int[] values = {0, 1, 14, 15, 16, 17, 31, 32, 240, 255};
        for (int v : values) {
            SlotScreen x = withBack(v);
            DUE.is("blank, R7 " + v, x.pixel(63, 31), v % 16);
            SlotScreen y = withTiles(0, 16, 1);
            Video.register(y, 7, v);
            y.scan();
            DUE.is("behind tiles, R7 " + v, y.pixel(0, 0), v % 16);
        }
    }

    private static void nothingMoreOnABlankLine() {
        DUE.by("if bit 6 of R1 is 0, .. there is nothing more");
        for (int low = 0; low < 4; low++) {
            SlotScreen x = new SlotScreen();
            Video.register(x, 1, 255 - 64 - low);
            Video.register(x, 3, 32);
            Video.register(x, 5, 8);
            Video.register(x, 7, 6);
            for (int k = 0; k < 6; k++) {
                Video.bytes(x, 256 + 4 * k, 255, 0, 0, 9);
            }
            Video.bytes(x, 0, 255, 255, 255, 255);
            x.scan();
            DUE.is("no sprite", Video.line(x, 0, 0, 64), "6".repeat(64));
            DUE.is("neither a fifth one nor a touch", x.chip(8), 0);
            Video.register(x, 1, 64);
            x.scan();
            DUE.is("a sprite", Video.line(x, 1, 0, 9), "999999996");
            DUE.is("a fifth one and a touch", x.chip(8), 64 + 32 + 4);
        }
    }

    /** Back color 7, no sprites: their table is at 480, and 208 is in it. */
    private static SlotScreen withTiles(int r2, int r3, int r4) {
        SlotScreen x = new SlotScreen();
        Video.register(x, 1, 64);
        Video.register(x, 2, r2);
        Video.register(x, 3, r3);
        Video.register(x, 4, r4);
        Video.register(x, 5, 15);
        Video.register(x, 7, 7);
        Video.bytes(x, 480, 208);
        return x;
    }

    private static void tilesAre8By4() {
        DUE.by("TILES: 8 by 4 of 8 by 8 pixels. The name of tile t (from 0, line by line)");
        for (int t = 0; t < 32; t++) {
            SlotScreen x = withTiles(2, 0, 1);
            Video.bytes(x, 64 + t, 1);
            Video.bytes(x, 0, 0x12);
            Video.bytes(x, 256 + 8, 255, 255, 255, 255, 255, 255, 255, 255);
            Video.scan(x, 32);
            for (int column = 0; column < 64; column += 8) {
                for (int y = 0; y < 32; y++) {
                    if (y % 8 == 0 || y % 8 == 7) {
                        int want = column / 8 == t % 8 && y / 8 == t / 8 ? 1 : 2;
                        DUE.is("tile " + t + " at " + column + ", " + y, x.pixel(column, y), want);
                        DUE.is("tile " + t + " at " + (column + 7) + ", " + y, x.pixel(column + 7, y), want);
                    }
                }
            }
        }
    }

    private static void tileNamesByR2Modulo16() {
        DUE.by("the byte at 32 * (R2 mod 16) + t");
        for (int r2 = 0; r2 < 256; r2++) {
            SlotScreen x = new SlotScreen();
            int names = 32 * (r2 % 16);
            // The other tables are out of the way of the names.
            int half = names < 256 ? 1 : 0;
            int rest = names < 256 ? 256 : 0;
            Video.register(x, 1, 64);
            Video.register(x, 2, r2);
            Video.register(x, 3, rest / 4 + 16);
            Video.register(x, 4, half);
            Video.register(x, 5, rest / 32 + 3);
            Video.bytes(x, rest + 96, 208);
            Video.bytes(x, rest + 64, 0x12);
            Video.bytes(x, rest + 8, 255, 255, 255, 255, 255, 255, 255, 255);
            Video.bytes(x, names, 1);
            Video.bytes(x, names + 31, 1);
            Video.scan(x, 32);
            DUE.is("the first, R2 " + r2, x.pixel(0, 0), 1);
            DUE.is("the second, R2 " + r2, x.pixel(8, 0), 2);
            DUE.is("the last, R2 " + r2, x.pixel(63, 31), 1);
            DUE.is("the last but one, R2 " + r2, x.pixel(55, 31), 2);
        }
    }

    private static void namesAreModulo32() {
        DUE.by("The name of tile t .. is the byte .., modulo 32");
        for (int name = 0; name < 256; name++) {
            SlotScreen x = withTiles(2, 0, 1);
            Video.register(x, 5, 4);
            Video.bytes(x, 128, 208);
            Video.bytes(x, 0, 0x12, 0x12, 0x12, 0x12);
            Video.bytes(x, 64, name);
            // Row 0 of name n has n as its five highest bits.
            for (int n = 0; n < 32; n++) {
                Video.bytes(x, 256 + 8 * n, 8 * n);
            }
            x.scan();
            StringBuilder want = new StringBuilder();
            for (int bit = 16; bit > 0; bit /= 2) {
                want.append((name % 32 & bit) != 0 ? '1' : '2');
            }
            DUE.is("name " + name, Video.line(x, 0, 0, 8), want + "222");
        }
    }

    private static void patternsByR4Modulo2() {
        DUE.by("the byte at 256 * (R4 mod 2) + 8 n + i");
        for (int r4 = 0; r4 < 256; r4++) {
            SlotScreen x = withTiles(2, 48, r4);
            Video.bytes(x, 192, 0x12, 0x12, 0x12, 0x12);
            Video.bytes(x, 64, 1, 31);
            Video.bytes(x, 8, 0xF0);
            Video.bytes(x, 248, 0xAA);
            Video.bytes(x, 264, 0x0F);
            Video.bytes(x, 504, 0x55);
            x.scan();
            DUE.is("R4 " + r4, Video.line(x, 0, 0, 16),
                    r4 % 2 == 0 ? "11112222" + "12121212" : "22221111" + "21212121");
        }
    }

    private static void rowsOfAPattern() {
        DUE.by("row i (0 .. 7) of the pattern of name n is the byte at .. 8 n + i");
        SlotScreen x = withTiles(2, 48, 0);
        Video.bytes(x, 192, 0x12, 0x12, 0x12, 0x12);
        for (int t = 0; t < 32; t += 8) {
            Video.bytes(x, 64 + t, 31);
        }
        Video.bytes(x, 248, 1, 2, 4, 8, 16, 32, 64, 128, 255);
        Video.scan(x, 32);
        for (int y = 0; y < 32; y++) {
            int at = 7 - y % 8;
            DUE.is("line " + y, Video.line(x, y, 0, 8), "2".repeat(at) + "1" + "2".repeat(7 - at));
        }
    }

    private static void highestBitIsLeftmost() {
        DUE.by("its highest bit the leftmost pixel");
        int[] rows = {0, 1, 127, 128, 254, 255};
        String[] want = {"22222222", "22222221", "21111111", "12222222", "11111112", "11111111"};
        for (int i = 0; i < rows.length; i++) {
            SlotScreen x = withTiles(2, 48, 0);
            Video.bytes(x, 192, 0x12);
            Video.bytes(x, 0, rows[i]);
            x.scan();
            DUE.is("row " + rows[i], Video.line(x, 0, 0, 64), want[i].repeat(8));
        }
    }

    private static void colorsByR3Modulo128() {
        DUE.by("the colors of n are the byte at 4 * (R3 mod 128) + n / 8");
        int[] values = {0, 1, 63, 64, 126, 127, 128, 129, 191, 192, 254, 255};
        for (int r3 : values) {
            SlotScreen x = new SlotScreen();
            int colors = 4 * (r3 % 128);
            // Names, patterns and sprites are in the half where the colors aren't.
            int rest = colors < 256 ? 256 : 0;
            Video.register(x, 1, 64);
            Video.register(x, 2, rest / 32);
            Video.register(x, 3, r3);
            Video.register(x, 4, rest / 256);
            Video.register(x, 5, rest / 32 + 1);
            Video.bytes(x, rest + 32, 208);
            Video.bytes(x, rest, 7, 8, 23, 24, 31);
            Video.bytes(x, colors, 0x12, 0x34, 0x56, 0x89);
            x.scan();
            DUE.is("R3 " + r3, Video.line(x, 0, 4, 36), "2222" + "4".repeat(8) + "6".repeat(8) + "9".repeat(12));
        }
    }

    private static void colorsAreOfEightNames() {
        DUE.by("the colors of n are the byte at .. + n / 8");
        for (int name = 0; name < 32; name++) {
            SlotScreen x = withTiles(8, 127, 0);
            Video.bytes(x, 508, 0x12, 0x34, 0x56, 0x89);
            Video.bytes(x, 256, name);
            Video.bytes(x, 8 * name, 0xF0);
            x.scan();
            String[] want = {"11112222", "33334444", "55556666", "88889999"};
            DUE.is("name " + name, Video.line(x, 0, 0, 8), want[name / 8]);
        }
    }

    private static void colorsAreHalvesOfAByte() {
        DUE.by("for bits that are 1 that / 16, for those that are 0 that mod 16");
        for (int pair = 0; pair < 256; pair++) {
            SlotScreen x = withTiles(2, 48, 0);
            Video.bytes(x, 192, pair);
            Video.bytes(x, 0, 0xF0);
            x.scan();
            int front = pair / 16 == 0 ? 7 : pair / 16;
            int rear = pair % 16 == 0 ? 7 : pair % 16;
            DUE.is("colors " + pair + " of a 1", x.pixel(0, 0), front);
            DUE.is("colors " + pair + " of a 0", x.pixel(63, 0), rear);
        }
    }

    private static void colorZeroIsTheBackColor() {
        DUE.by("Color 0 is the back color");
        for (int back = 0; back < 16; back++) {
            SlotScreen x = withTiles(2, 48, 0);
            Video.register(x, 7, 16 * 5 + back);
            Video.bytes(x, 0, 0xF0);
            String color = Integer.toHexString(back);
            Video.bytes(x, 192, 0x0E);
            x.scan();
            DUE.is("of a 1", Video.line(x, 0, 0, 8), color.repeat(4) + "eeee");
            Video.bytes(x, 1, 0xF0);
            Video.bytes(x, 192, 0xE0);
            x.scan();
            DUE.is("of a 0", Video.line(x, 1, 0, 8), "eeee" + color.repeat(4));
            Video.bytes(x, 2, 0xF0);
            Video.bytes(x, 192, 0x00);
            x.scan();
            DUE.is("of both", Video.line(x, 2, 0, 8), color.repeat(8));
        }
    }
}
