/** Promises 10 and 11 on mixed scenes, with status and pixels compared with the model's. */
public final class SceneTest {
    private static final Due DUE = new Due();
    private static final int SCENES = 4000;

    private final Dice dice;
    private final Twin twin;

    private SceneTest(int scene) {
        dice = new Dice(scene);
        twin = new Twin(DUE, "scene " + scene);
    }

    public static void main(String[] args) {
        for (int scene = 0; scene < SCENES; scene++) {
            new SceneTest(scene).play();
        }
        DUE.end();
    }

    private void play() {
        int[] registers = new int[8];
        for (int n = 0; n < 8; n++) {
            registers[n] = dice.below(256);
        }
        registers[1] = dice.below(10) == 0 ? dice.below(256) : 64 + dice.below(4);
        for (int n = 0; n < 8; n++) {
            twin.register(n, registers[n]);
        }
        fill(32 * (registers[5] % 16), 32, true);
        fill(32 * (registers[2] % 16), 32, false);
        fill(128 * (registers[6] % 4), 64, false);
        fill(dice.below(512), 60, false);
        for (int line = 0; line < 32; line++) {
            twin.call("scan");
            twin.call("chip", 8);
            for (int i = 0; i < 5; i++) {
                twin.call("pixel", dice.below(64), line);
            }
            if (dice.below(5) == 0) {
                twin.call("in", 1);
            }
            if (dice.below(10) == 0) {
                twin.register(1, 64 + dice.below(4));
            }
        }
    }

    private void fill(int place, int count, boolean asSprites) {
        twin.pointAt(place);
        for (int i = 0; i < count; i++) {
            twin.call("out", 0, asSprites ? spriteByte(i % 4) : dice.below(256));
        }
    }

    private int spriteByte(int which) {
        switch (which) {
            case 0:
                return dice.below(20) == 0 ? 208 : (224 + dice.below(64)) % 256;
            case 1:
                return dice.below(100);
            case 3:
                return dice.below(4) == 0 ? 16 * dice.below(16) : dice.below(256);
            default:
                return dice.below(256);
        }
    }
}
