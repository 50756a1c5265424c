/** Promises 8, 9, 12, 13 and 15: in, out, video, chip and calls. */
public final class PortsTest {
    private static final Due DUE = new Due();

    public static void main(String[] args) {
        otherPorts();
        outRefuses();
        primaryPort();
        registers();
        pointerForWriting();
        pointerForReading();
        pointerGoesRound();
        dataPort();
        waitingByte();
        statusPort();
        chipAnswersAndVideoEdges();
        callsNeedsBothBits();
        DUE.end();
    }

    private static void otherPorts() {
        SlotScreen x = new SlotScreen();
        int[] ports = {-1, 3, 4, 255, 256, Integer.MIN_VALUE, Integer.MAX_VALUE};
        for (int port : ports) {
            DUE.is("out(" + port + ", 9)", x.out(port, 9), true);
            DUE.is("in(" + port + ")", x.in(port), 255);
            DUE.is("out(" + port + ", 256)", x.out(port, 256), false);
        }
        for (int what = 0; what <= 10; what++) {
            DUE.is("chip(" + what + ")", x.chip(what), 0);
        }
        DUE.is("in(2)", x.in(2), 0);
        x.out(1, 4);
        x.out(3, 1);
        x.in(3);
        x.out(2, 1);
        x.in(2);
        DUE.is("what waits is the chip's ports' alone", x.chip(11), 4);
    }

    private static void outRefuses() {
        SlotScreen x = new SlotScreen();
        x.out(1, 6);
        int[] noBytes = {-1, 256, Integer.MIN_VALUE, Integer.MAX_VALUE};
        for (int v : noBytes) {
            for (int port = 0; port < 3; port++) {
                DUE.is("out(" + port + ", " + v + ")", x.out(port, v), false);
            }
        }
        DUE.is("what waits", x.chip(11), 6);
        DUE.is("the pointer", x.chip(9), 0);
        DUE.is("in(2)", x.in(2), 0);
        DUE.is("out(0, 0)", x.out(0, 0), true);
        DUE.is("out(1, 0)", x.out(1, 0), true);
        DUE.is("out(2, 0)", x.out(2, 0), true);
        DUE.is("out(0, 255)", x.out(0, 255), true);
        DUE.is("out(1, 255)", x.out(1, 255), true);
        DUE.is("out(2, 255)", x.out(2, 255), true);
    }

    private static void primaryPort() {
        SlotScreen x = new SlotScreen();
        int[] values = {1, 128, 255, 27, 0};
        for (int v : values) {
            x.out(2, v);
            DUE.is("in(2)", x.in(2), v);
            DUE.is("in(2) again", x.in(2), v);
        }
    }

    private static void registers() {
        int[] seconds = {128, 136, 192, 248};
        for (int second : seconds) {
            SlotScreen x = new SlotScreen();
            for (int n = 0; n < 8; n++) {
                x.out(1, 200 + n);
                DUE.is("nothing yet", x.chip(n), 0);
                x.out(1, second + n);
                DUE.is("register " + n, x.chip(n), 200 + n);
            }
            for (int n = 0; n < 8; n++) {
                DUE.is("register " + n + " still", x.chip(n), 200 + n);
            }
            DUE.is("pointer", x.chip(9), 0);
            DUE.is("ready", x.chip(10), 0);
            DUE.is("what waits", x.chip(11), SlotScreen.NONE);
        }
    }

    private static void pointerForWriting() {
        int[] seconds = {64, 65, 66, 67, 126, 127};
        for (int second : seconds) {
            SlotScreen x = new SlotScreen();
            Video.bytes(x, 0, 41, 42);
            x.out(1, 0);
            x.out(1, second);
            DUE.is("pointer by " + second, x.chip(9), 256 * (second % 2));
            DUE.is("ready by " + second, x.chip(10), 42);
            x.out(1, 255);
            x.out(1, second);
            DUE.is("pointer by " + second, x.chip(9), 255 + 256 * (second % 2));
        }
    }

    private static void pointerForReading() {
        int[] seconds = {0, 1, 2, 3, 62, 63};
        for (int second : seconds) {
            SlotScreen x = new SlotScreen();
            Video.bytes(x, 9, 41, 42);
            Video.bytes(x, 265, 51, 52);
            x.out(1, 9);
            x.out(1, second);
            DUE.is("pointer by " + second, x.chip(9), 10 + 256 * (second % 2));
            DUE.is("ready by " + second, x.chip(10), 41 + 10 * (second % 2));
            DUE.is("in(0) by " + second, x.in(0), 41 + 10 * (second % 2));
            DUE.is("in(0) again", x.in(0), 42 + 10 * (second % 2));
            DUE.is("pointer behind", x.chip(9), 12 + 256 * (second % 2));
        }
    }

    private static void pointerGoesRound() {
        SlotScreen x = new SlotScreen();
        Video.bytes(x, 511, 7, 8, 9);
        DUE.is("video(511)", x.video(511), 7);
        DUE.is("video(0)", x.video(0), 8);
        DUE.is("video(1)", x.video(1), 9);
        DUE.is("pointer", x.chip(9), 2);
        x.out(1, 255);
        x.out(1, 1);
        DUE.is("pointer behind 511", x.chip(9), 0);
        DUE.is("in(0)", x.in(0), 7);
        DUE.is("in(0)", x.in(0), 8);
        Video.bytes(x, 511);
        x.in(0);
        DUE.is("pointer by in", x.chip(9), 0);
    }

    private static void dataPort() {
        SlotScreen x = new SlotScreen();
        Video.bytes(x, 100, 1, 2, 3, 4);
        DUE.is("ready is what was written", x.chip(10), 4);
        Video.bytes(x, 101);
        DUE.is("ready is kept", x.chip(10), 4);
        DUE.is("the old one first", x.in(0), 4);
        DUE.is("ready then", x.chip(10), 2);
        x.out(0, 30);
        DUE.is("written at the pointer", x.video(102), 30);
        DUE.is("and ready", x.chip(10), 30);
        DUE.is("in(0)", x.in(0), 30);
        DUE.is("in(0)", x.in(0), 4);
        DUE.is("video(101)", x.video(101), 2);
        DUE.is("pointer", x.chip(9), 105);
    }

    private static void waitingByte() {
        SlotScreen x = new SlotScreen();
        x.out(1, 0);
        DUE.is("a 0 waits", x.chip(11), 0);
        x.in(1);
        DUE.is("not behind in(1)", x.chip(11), SlotScreen.NONE);
        x.out(1, 255);
        DUE.is("a 255 waits", x.chip(11), 255);
        x.in(0);
        DUE.is("not behind in(0)", x.chip(11), SlotScreen.NONE);
        x.out(1, 7);
        x.out(0, 1);
        DUE.is("not behind out(0)", x.chip(11), SlotScreen.NONE);
        x.out(1, 129);
        DUE.is("129 is a first byte", x.chip(11), 129);
        x.out(1, 129);
        DUE.is("none behind two", x.chip(11), SlotScreen.NONE);
        DUE.is("R1", x.chip(1), 129);
        x.scan();
        x.out(1, 3);
        x.scan();
        x.video(0);
        x.calls();
        x.pixel(0, 0);
        x.write(0, 0);
        x.read(0);
        DUE.is("scan and the rest leave it", x.chip(11), 3);
    }

    private static void statusPort() {
        SlotScreen x = new SlotScreen();
        Video.register(x, 1, 64);
        Video.register(x, 5, 1);
        Video.bytes(x, 32, 255, 0, 0, 1, 255, 0, 0, 1, 255, 0, 0, 1, 255, 0, 0, 1, 255, 0, 0, 1, 208);
        Video.bytes(x, 0, 1);
        Video.scan(x, 32);
        DUE.is("chip(8)", x.chip(8), 128 + 64 + 32 + 4);
        DUE.is("chip(8) changes nothing", x.chip(8), 128 + 64 + 32 + 4);
        DUE.is("in(1)", x.in(1), 128 + 64 + 32 + 4);
        DUE.is("chip(8) then", x.chip(8), 4);
        DUE.is("in(1) then", x.in(1), 4);
        DUE.is("chip(8) in the end", x.chip(8), 4);
    }

    private static void chipAnswersAndVideoEdges() {
        SlotScreen x = new SlotScreen();
        Video.bytes(x, 0, 255);
        Video.bytes(x, 511, 254);
        DUE.is("video(0)", x.video(0), 255);
        DUE.is("video(511)", x.video(511), 254);
        int[] no = {-1, 512, 513, Integer.MIN_VALUE, Integer.MAX_VALUE};
        for (int place : no) {
            DUE.is("video(" + place + ")", x.video(place), SlotScreen.NONE);
        }
        int[] noWhat = {-1, 12, 13, 128, Integer.MIN_VALUE, Integer.MAX_VALUE};
        for (int what : noWhat) {
            DUE.is("chip(" + what + ")", x.chip(what), SlotScreen.NONE);
        }
    }

    private static void callsNeedsBothBits() {
        SlotScreen x = new SlotScreen();
        Video.register(x, 1, 32);
        Video.scan(x, 31);
        DUE.is("before line 31", x.calls(), false);
        x.scan();
        DUE.is("behind line 31", x.calls(), true);
        Video.register(x, 1, 255 - 32);
        DUE.is("without bit 5 of R1", x.calls(), false);
        Video.register(x, 1, 255);
        // Register writes end what waits, but only reading ends bit 7.
        DUE.is("with all of R1", x.calls(), true);
        x.scan();
        DUE.is("a line later", x.calls(), true);
        x.in(1);
        DUE.is("behind in(1)", x.calls(), false);
    }
}
