/** Promise 1: what a new object is like. */
public final class NewObjectTest {
    private static final Due DUE = new Due();

    public static void main(String[] args) {
        memoryIsEmpty();
        numbersAreZero();
        chipIsClear();
        screenIsBlack();
        DUE.end();
    }

    private static void memoryIsEmpty() {
        SlotScreen x = new SlotScreen();
        for (int a = 0; a < 256; a += 15) {
            DUE.is("read(" + a + ")", x.read(a), 255);
            x.write(a, 1);
            DUE.is("read(" + a + ") behind write", x.read(a), 255);
        }
        for (int slot = 0; slot < 4; slot++) {
            for (int part = 0; part < 4; part++) {
                DUE.is("far of " + slot + " " + part, x.far(slot, part, 100), 255);
                DUE.is("burn of " + slot + " " + part, x.burn(slot, part, 0, 1), false);
            }
            x.widen(slot);
            for (int part = 0; part < 4; part++) {
                x.plug(slot, part, 1, 0);
            }
        }
    }

    private static void numbersAreZero() {
        SlotScreen x = new SlotScreen();
        DUE.is("in(2)", x.in(2), 0);
        for (int slot = 0; slot < 4; slot++) {
            DUE.is("secondary of plain " + slot, x.secondary(slot), SlotScreen.NONE);
            x.widen(slot);
            DUE.is("secondary of " + slot, x.secondary(slot), 0);
        }
    }

    private static void chipIsClear() {
        SlotScreen x = new SlotScreen();
        for (int what = 0; what <= 10; what++) {
            DUE.is("chip(" + what + ")", x.chip(what), 0);
        }
        DUE.is("chip(11)", x.chip(11), SlotScreen.NONE);
        DUE.is("calls()", x.calls(), false);
        for (int place = 0; place < 400; place++) {
            DUE.is("video(" + place + ")", x.video(place), 0);
        }
        x = new SlotScreen();
        for (int place = 400; place < 512; place++) {
            DUE.is("video(" + place + ")", x.video(place), 0);
        }
    }

    private static void screenIsBlack() {
        for (int y = 0; y < 32; y++) {
            SlotScreen x = new SlotScreen();
            for (int column = 0; column < 64; column++) {
                DUE.is("pixel(" + column + ", " + y + ")", x.pixel(column, y), 0);
            }
        }
        DUE.is("scan()", new SlotScreen().scan(), 0);
    }
}
