/**
 * The boundary cases of the ports and the chip, a sentence of the document at a time: the terms,
 * and promises 8 in, 9 out, 12 video, 13 chip and 15 calls.
 */
public final class PortEdgesTest {
    private static final Due DUE = new Due();
    private static final int[] NO_PORTS = {-1, 3, 255, 256, Integer.MIN_VALUE, Integer.MAX_VALUE};
    private static final int[] NO_BYTES = {-1, 256, Integer.MIN_VALUE, Integer.MAX_VALUE};
    private static final int READY = 33;

    public static void main(String[] args) {
        otherPortsAreRead();
        otherPortsAreWritten();
        outTakesBytes();
        port2IsThePrimaryNumber();
        allIsZeroAndNoneWaitsAtFirst();
        oneByteWaits();
        twoBytesAreACommand();
        registersBy128AndMore();
        pointerBelow128();
        readyBelow64();
        statusIsRead();
        statusReadEndsWaiting();
        dataWriteEndsWaiting();
        dataReadEndsWaiting();
        otherCallsLeaveWhatWaits();
        writtenByteIsReadyToo();
        readByteIsTheReadyOne();
        pointerGoesRoundByWriting();
        pointerGoesRoundByReading();
        pointerGoesRoundByACommand();
        videoPlaces();
        chipWhats();
        callsNeedsBothBits();
        DUE.end();
    }

    private static void otherPortsAreRead() {
        DUE.by("PORTS 0, 1, 2; of others 255 is read");
        SlotScreen x = new SlotScreen();
        for (int no : NO_PORTS) {
            DUE.is("in(" + no + ")", x.in(no), 255);
        }
        for (int port = 0; port <= 2; port++) {
            DUE.is("in(" + port + ")", x.in(port), 0);
        }
    }

    private static void otherPortsAreWritten() {
        DUE.by("PORTS 0, 1, 2; of others .. writing does nothing");
        SlotScreen x = new SlotScreen();
        for (int no : NO_PORTS) {
            DUE.is("out(" + no + ", 9)", x.out(no, 9), true);
            DUE.is("in(" + no + ")", x.in(no), 255);
            DUE.is("in(2)", x.in(2), 0);
            DUE.is("the pointer", x.chip(9), 0);
            DUE.is("what is ready", x.chip(10), 0);
            DUE.is("what waits", x.chip(11), SlotScreen.NONE);
            DUE.is("video(0)", x.video(0), 0);
        }
    }

    private static void outTakesBytes() {
        DUE.by("out: Writes a port; false if v isn't 0 .. 255");
        int[] ports = {0, 1, 2, 3, -1, Integer.MAX_VALUE};
        for (int port : ports) {
            SlotScreen x = new SlotScreen();
            for (int no : NO_BYTES) {
                DUE.is("out(" + port + ", " + no + ")", x.out(port, no), false);
            }
            DUE.is("in(2)", x.in(2), 0);
            DUE.is("the pointer", x.chip(9), 0);
            DUE.is("what waits", x.chip(11), SlotScreen.NONE);
            DUE.is("out(" + port + ", 0)", x.out(port, 0), true);
            DUE.is("out(" + port + ", 255)", x.out(port, 255), true);
        }
        SlotScreen y = new SlotScreen();
        y.out(1, 5);
        for (int no : NO_BYTES) {
            DUE.is("out(1, " + no + ") behind a byte that waits", y.out(1, no), false);
            DUE.is("out(0, " + no + ") behind a byte that waits", y.out(0, no), false);
            DUE.is("what waits", y.chip(11), 5);
        }
    }

    private static void port2IsThePrimaryNumber() {
        DUE.by("Port 2 is the primary number");
        SlotScreen x = new SlotScreen();
        x.plug(3, 0, 1, 0);
        DUE.is("at first", x.in(2), 0);
        int[] numbers = {1, 3, 192, 254, 255, 128, 0};
        for (int number : numbers) {
            x.out(2, number);
            DUE.is("in(2)", x.in(2), number);
            DUE.is("in(2) again", x.in(2), number);
            DUE.is("page 0", x.read(0), number % 4 == 3 ? 0 : 255);
            DUE.is("page 3", x.read(255), number / 64 == 3 ? 0 : 255);
        }
    }

    private static void allIsZeroAndNoneWaitsAtFirst() {
        DUE.by("a byte READY, and a byte that WAITS, or not; all 0 and not at first");
        SlotScreen x = new SlotScreen();
        for (int what = 0; what <= 10; what++) {
            DUE.is("chip(" + what + ")", x.chip(what), 0);
        }
        DUE.is("chip(11)", x.chip(11), SlotScreen.NONE);
        for (int place = 0; place < 512; place += 7) {
            DUE.is("video(" + place + ")", x.video(place), 0);
        }
        DUE.is("video(511)", x.video(511), 0);
        DUE.is("in(0)", x.in(0), 0);
        DUE.is("in(1)", x.in(1), 0);
    }

    private static void oneByteWaits() {
        DUE.by("Port 1, written: if no byte waits, this one waits");
        for (int v = 0; v < 256; v++) {
            SlotScreen x = new SlotScreen();
            x.out(1, v);
            DUE.is("what waits", x.chip(11), v);
            for (int what = 0; what <= 10; what++) {
                DUE.is("chip(" + what + ") while " + v + " waits", x.chip(what), 0);
            }
        }
    }

    private static void twoBytesAreACommand() {
        DUE.by("Port 1, written: .. Otherwise none waits any more");
        for (int second = 0; second < 256; second++) {
            SlotScreen x = new SlotScreen();
            x.out(1, 0);
            x.out(1, second);
            DUE.is("none behind 0, " + second, x.chip(11), SlotScreen.NONE);
            x.out(1, second);
            DUE.is("a third one", x.chip(11), second);
            x.out(1, 255);
            DUE.is("none behind a fourth", x.chip(11), SlotScreen.NONE);
            DUE.is("register 7", x.chip(7), second);
        }
    }

    /**
     * The bytes at first and first + 256 are 11 and 22, the pointer is first + 101, and READY is
     * ready; then the two are written to port 1.
     */
    private static SlotScreen behind(int first, int second) {
        SlotScreen x = new SlotScreen();
        Video.bytes(x, first, 11);
        Video.bytes(x, first + 256, 22);
        Video.bytes(x, first + 100, READY);
        x.out(1, first);
        x.out(1, second);
        return x;
    }

    private static void registersBy128AndMore() {
        DUE.by("if S is 128 or more, register S mod 8 becomes F");
        int[] firsts = {0, 1, 127, 128, 255};
        for (int first : firsts) {
            for (int second = 128; second < 256; second++) {
                SlotScreen x = behind(first, second);
                for (int n = 0; n < 8; n++) {
                    DUE.is("register " + n + " by " + second, x.chip(n), second % 8 == n ? first : 0);
                }
                DUE.is("the pointer by " + second, x.chip(9), first + 101);
                DUE.is("what is ready by " + second, x.chip(10), READY);
                DUE.is("in(0)", x.in(0), READY);
            }
        }
    }

    private static void pointerBelow128() {
        DUE.by("if not, the pointer becomes F + 256 times (S mod 2)");
        int[] firsts = {0, 1, 127, 128, 255};
        for (int first : firsts) {
            for (int second = 64; second < 128; second++) {
                SlotScreen x = behind(first, second);
                DUE.is("the pointer by " + second, x.chip(9), first + 256 * (second % 2));
                DUE.is("what is ready by " + second, x.chip(10), READY);
                for (int n = 0; n < 8; n++) {
                    DUE.is("register " + n + " by " + second, x.chip(n), 0);
                }
                DUE.is("in(0)", x.in(0), READY);
                DUE.is("in(0) then", x.in(0), second % 2 == 0 ? 11 : 22);
            }
        }
    }

    private static void readyBelow64() {
        DUE.by("if S is below 64, the byte at the pointer is ready, and the pointer goes on");
        int[] firsts = {0, 1, 127, 128, 254, 255};
        for (int first : firsts) {
            for (int second = 0; second < 64; second++) {
                SlotScreen x = behind(first, second);
                DUE.is("the pointer by " + second, x.chip(9), (first + 256 * (second % 2) + 1) % 512);
                DUE.is("what is ready by " + second, x.chip(10), second % 2 == 0 ? 11 : 22);
                for (int n = 0; n < 8; n++) {
                    DUE.is("register " + n + " by " + second, x.chip(n), 0);
                }
                DUE.is("in(0)", x.in(0), second % 2 == 0 ? 11 : 22);
            }
        }
    }

    /** Five sprites on line 0 that lie on one another; only the first so many are there. */
    private static SlotScreen withSprites(int count) {
        SlotScreen x = new SlotScreen();
        Video.register(x, 1, 64);
        Video.register(x, 5, 8);
        Video.bytes(x, 0, 128);
        for (int k = 0; k < count; k++) {
            Video.bytes(x, 256 + 4 * k, 255, 0, 0, 1);
        }
        Video.bytes(x, 256 + 4 * count, 208);
        return x;
    }

    private static void statusIsRead() {
        DUE.by("Port 1, .. Read: the status, whose bits 7, 6 and 5 become 0 then");
        int[] counts = {1, 2, 5, 1, 2, 5};
        int[] lines = {31, 31, 31, 32, 32, 32};
        int[] want = {0, 32, 64 + 32 + 4, 128, 128 + 32, 128 + 64 + 32 + 4};
        for (int i = 0; i < want.length; i++) {
            SlotScreen x = withSprites(counts[i]);
            Video.scan(x, lines[i]);
            DUE.is("chip(8)", x.chip(8), want[i]);
            DUE.is("in(1)", x.in(1), want[i]);
            DUE.is("the lowest five bits stay", x.chip(8), want[i] % 32);
            DUE.is("in(1) again", x.in(1), want[i] % 32);
            Video.scan(x, 32);
            DUE.is("all is noted anew", x.in(1), want[i] % 128 + 128);
        }
        // Bit 6 alone: five sprites that don't touch.
        SlotScreen y = withSprites(5);
        for (int k = 0; k < 5; k++) {
            Video.bytes(y, 256 + 4 * k + 1, 10 * k);
        }
        y.scan();
        DUE.is("in(1)", y.in(1), 64 + 4);
        DUE.is("chip(8)", y.chip(8), 4);
    }

    private static void statusReadEndsWaiting() {
        DUE.by("Port 1, .. Read: .. no byte waits any more");
        SlotScreen x = new SlotScreen();
        x.out(1, 77);
        x.in(1);
        DUE.is("what waits", x.chip(11), SlotScreen.NONE);
        x.in(1);
        DUE.is("what waits", x.chip(11), SlotScreen.NONE);
        x.out(1, 135);
        DUE.is("135 is a first byte", x.chip(11), 135);
        DUE.is("register 7", x.chip(7), 0);
        DUE.is("the pointer", x.chip(9), 0);
    }

    private static void dataWriteEndsWaiting() {
        DUE.by("Port 0, written .. In both cases no byte waits any more");
        SlotScreen x = new SlotScreen();
        x.out(1, 77);
        x.out(0, 9);
        DUE.is("what waits", x.chip(11), SlotScreen.NONE);
        DUE.is("video(0)", x.video(0), 9);
        DUE.is("video(77)", x.video(77), 0);
        x.out(0, 8);
        DUE.is("what waits", x.chip(11), SlotScreen.NONE);
        x.out(1, 135);
        DUE.is("135 is a first byte", x.chip(11), 135);
        DUE.is("register 7", x.chip(7), 0);
    }

    private static void dataReadEndsWaiting() {
        DUE.by("Port 0, .. read .. In both cases no byte waits any more");
        SlotScreen x = new SlotScreen();
        x.out(1, 77);
        DUE.is("in(0)", x.in(0), 0);
        DUE.is("what waits", x.chip(11), SlotScreen.NONE);
        DUE.is("the pointer", x.chip(9), 1);
        x.in(0);
        DUE.is("what waits", x.chip(11), SlotScreen.NONE);
        x.out(1, 135);
        DUE.is("135 is a first byte", x.chip(11), 135);
        DUE.is("register 7", x.chip(7), 0);
    }

    private static void otherCallsLeaveWhatWaits() {
        DUE.by("if no byte waits, this one waits. Otherwise none waits any more");
        SlotScreen x = new SlotScreen();
        x.out(1, 77);
        x.in(2);
        x.out(2, 0);
        x.in(3);
        x.out(3, 1);
        x.in(-1);
        x.out(-1, 1);
        x.scan();
        x.read(0);
        x.write(0, 1);
        x.far(0, 0, 0);
        x.chip(11);
        x.video(0);
        x.pixel(0, 0);
        x.calls();
        DUE.is("what waits", x.chip(11), 77);
        x.out(1, 135);
        DUE.is("register 7", x.chip(7), 77);
    }

    private static void writtenByteIsReadyToo() {
        DUE.by("Port 0, written: the byte at the pointer becomes that, which is ready then, too");
        int[] places = {0, 1, 255, 256, 510, 511};
        for (int place : places) {
            SlotScreen x = new SlotScreen();
            Video.bytes(x, (place + 511) % 512, 1, 2, 3);
            Video.bytes(x, place, 200);
            DUE.is("before " + place, x.video((place + 511) % 512), 1);
            DUE.is("video(" + place + ")", x.video(place), 200);
            DUE.is("behind " + place, x.video((place + 1) % 512), 3);
            DUE.is("what is ready", x.chip(10), 200);
            DUE.is("the pointer", x.chip(9), (place + 1) % 512);
            DUE.is("in(0)", x.in(0), 200);
            DUE.is("in(0) then", x.in(0), 3);
            x.out(0, 0);
            DUE.is("a 0 is ready, too", x.chip(10), 0);
            x.out(0, 255);
            DUE.is("a 255 is ready, too", x.chip(10), 255);
        }
    }

    private static void readByteIsTheReadyOne() {
        DUE.by("Port 0, .. read: the byte that is ready; the one at the pointer is ready then, and the pointer goes on");
        int[] places = {0, 1, 255, 256, 510, 511};
        for (int place : places) {
            SlotScreen x = new SlotScreen();
            Video.bytes(x, place, 201, 202);
            Video.bytes(x, place);
            DUE.is("the one that was ready", x.in(0), 202);
            DUE.is("what is ready then", x.chip(10), 201);
            DUE.is("the pointer", x.chip(9), (place + 1) % 512);
            DUE.is("the next one", x.in(0), 201);
            DUE.is("the one behind it", x.in(0), 202);
            DUE.is("the pointer", x.chip(9), (place + 3) % 512);
            DUE.is("reading changes no byte", x.video(place), 201);
        }
    }

    private static void pointerGoesRoundByWriting() {
        DUE.by("The pointer goes on by 1, behind 511 to 0");
        SlotScreen x = new SlotScreen();
        Video.bytes(x, 509);
        int[] want = {510, 511, 0, 1, 2};
        for (int i = 0; i < want.length; i++) {
            x.out(0, 50 + i);
            DUE.is("the pointer behind out(0)", x.chip(9), want[i]);
        }
        int[] places = {509, 510, 511, 0, 1};
        for (int i = 0; i < places.length; i++) {
            DUE.is("video(" + places[i] + ")", x.video(places[i]), 50 + i);
        }
        // 255 is no end.
        Video.bytes(x, 255, 1, 2);
        DUE.is("the pointer", x.chip(9), 257);
        DUE.is("video(256)", x.video(256), 2);
        DUE.is("video(0)", x.video(0), 53);
    }

    private static void pointerGoesRoundByReading() {
        DUE.by("The pointer goes on by 1, behind 511 to 0");
        SlotScreen x = new SlotScreen();
        Video.bytes(x, 509, 60, 61, 62, 63, 64);
        Video.bytes(x, 509);
        int[] pointers = {510, 511, 0, 1, 2};
        int[] answers = {64, 60, 61, 62, 63};
        for (int i = 0; i < pointers.length; i++) {
            DUE.is("in(0)", x.in(0), answers[i]);
            DUE.is("the pointer behind in(0)", x.chip(9), pointers[i]);
        }
    }

    private static void pointerGoesRoundByACommand() {
        DUE.by("The pointer goes on by 1, behind 511 to 0");
        SlotScreen x = new SlotScreen();
        Video.bytes(x, 510, 70, 71, 72);
        x.out(1, 254);
        x.out(1, 1);
        DUE.is("the pointer behind 510", x.chip(9), 511);
        DUE.is("what is ready", x.chip(10), 70);
        x.out(1, 255);
        x.out(1, 63);
        DUE.is("the pointer behind 511", x.chip(9), 0);
        DUE.is("what is ready", x.chip(10), 71);
        x.out(1, 255);
        x.out(1, 62);
        DUE.is("the pointer behind 255", x.chip(9), 256);
        x.out(1, 255);
        x.out(1, 65);
        DUE.is("511 itself", x.chip(9), 511);
    }

    private static void videoPlaces() {
        DUE.by("video: A byte of the chip's own; NONE if there is none such");
        SlotScreen x = new SlotScreen();
        Video.bytes(x, 511, 7, 8);
        DUE.is("video(0)", x.video(0), 8);
        DUE.is("video(511)", x.video(511), 7);
        int[] no = {-1, 512, -512, 1023, Integer.MIN_VALUE, Integer.MAX_VALUE};
        for (int place : no) {
            DUE.is("video(" + place + ")", x.video(place), SlotScreen.NONE);
        }
        for (int from = 0; from < 512; from += 128) {
            SlotScreen y = new SlotScreen();
            Video.bytes(y, from);
            for (int i = 0; i < 128; i++) {
                y.out(0, 255 - i);
            }
            for (int i = 0; i < 128; i++) {
                DUE.is("video(" + (from + i) + ")", y.video(from + i), 255 - i);
            }
        }
    }

    private static void chipWhats() {
        DUE.by("chip: what 0 .. 7 its registers, 8 the status, 9 the pointer, 10 the byte that is ready, "
                + "11 the byte that waits (NONE if none does); NONE for another what");
        SlotScreen x = withSprites(5);
        x.scan();
        for (int n = 0; n < 8; n++) {
            Video.register(x, n, 200 + n);
        }
        Video.bytes(x, 301, 44);
        DUE.is("chip(11), none waiting", x.chip(11), SlotScreen.NONE);
        x.out(1, 0);
        for (int n = 0; n < 8; n++) {
            DUE.is("chip(" + n + ")", x.chip(n), 200 + n);
        }
        DUE.is("chip(8)", x.chip(8), 64 + 32 + 4);
        DUE.is("chip(9)", x.chip(9), 302);
        DUE.is("chip(10)", x.chip(10), 44);
        DUE.is("chip(11), 0 waiting", x.chip(11), 0);
        int[] no = {-1, 12, 13, 255, Integer.MIN_VALUE, Integer.MAX_VALUE};
        for (int what : no) {
            DUE.is("chip(" + what + ")", x.chip(what), SlotScreen.NONE);
        }
        DUE.is("chip(8) again", x.chip(8), 64 + 32 + 4);
    }

    private static void callsNeedsBothBits() {
        DUE.by("calls: Whether the chip calls: bit 5 of R1 is 1, and bit 7 of the status");
        for (int from = 0; from < 256; from += 64) {
            SlotScreen x = new SlotScreen();
            Video.scan(x, 31);
            SlotScreen y = new SlotScreen();
            Video.scan(y, 32);
            for (int r1 = from; r1 < from + 64; r1++) {
                Video.register(x, 1, r1);
                DUE.is("before line 31, R1 " + r1, x.calls(), false);
                Video.register(y, 1, r1);
                DUE.is("behind line 31, R1 " + r1, y.calls(), r1 / 32 % 2 == 1);
            }
        }
        // The other bits of the status don't call.
        SlotScreen z = withSprites(5);
        Video.register(z, 1, 96);
        z.scan();
        DUE.is("the status", z.chip(8), 64 + 32 + 4);
        DUE.is("calls() without bit 7", z.calls(), false);
        Video.scan(z, 31);
        DUE.is("calls() with bit 7", z.calls(), true);
        DUE.is("calls() changes nothing", z.calls(), true);
        z.in(1);
        DUE.is("calls() behind in(1)", z.calls(), false);
    }
}
