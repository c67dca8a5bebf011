import java.util.Random;

/** Calls of all kinds with arguments of all kinds: none throws but by a throw of its own, and each refusal is counted. */
public final class WildCallsTest {
    private static final int OBJECTS = 300;
    private static final int CALLS = 512;
    private static final int KINDS = 33;
    private static final int[] WILD = {Integer.MIN_VALUE, Integer.MIN_VALUE + 1, -1000, -2, -1, 199, 200, 201, 300, 998, 1000, 9999,
        10000, Integer.MAX_VALUE - 1, Integer.MAX_VALUE};
    private static final String PARTS = "A*B_ai1.(), {A|xyz}{B|x|y};}?C";

    private final Kit kit = new Kit("WildCallsTest");
    private final Random random = new Random(34);
    private UprightTurned x;

    public static void main(String[] args) {
        WildCallsTest test = new WildCallsTest();
        for (int i = 0; i < OBJECTS; i++) {
            test.use();
        }
        test.kit.close();
    }

    private void use() {
        x = new UprightTurned();
        int missing = 0;
        int wrong = 0;
        for (int call = 0; call < CALLS - 2; call++) {
            int kind = random.nextInt(KINDS);
            try {
                call(kind);
            } catch (RuntimeException e) {
                String from = e.getStackTrace()[0].getMethodName();
                kit.due("kind " + kind + " threw " + e, true, from.equals("needExisting") || from.equals("needWithin"));
                missing += from.equals("needExisting") ? 1 : 0;
                wrong += from.equals("needWithin") ? 1 : 0;
            }
        }
        kit.due("missing ones", missing, x.status(0));
        kit.due("wrong ones", wrong, x.status(1));
    }

    private int any() {
        int kind = random.nextInt(12);
        return kind == 0 ? WILD[random.nextInt(WILD.length)] : kind < 4 ? random.nextInt(60) : random.nextInt(8);
    }

    private int bytes() {
        int four = 0;
        for (int i = 0; i < 4; i++) {
            four = four << 8 | (random.nextInt(40) == 0 ? random.nextInt(256) : PARTS.charAt(random.nextInt(PARTS.length())));
        }
        return four;
    }

    private void fill() {
        if (random.nextInt(3) > 0) {
            int from = random.nextInt(PARTS.length());
            String text = (PARTS + PARTS).substring(from, from + random.nextInt(PARTS.length()));
            x.text(0);
            Kit.feed(x, text);
        } else {
            x.feed(bytes(), bytes(), bytes(), bytes(), bytes());
        }
    }

    private long call(int kind) {
        switch (kind) {
            case 0:
                fill();
                return x.text(random.nextInt(4) == 0 ? any() : (int) x.told(14));
            case 1:
                fill();
                return x.more(random.nextInt(3) == 0 ? any() : random.nextInt(20));
            case 2:
                return x.set(random.nextInt(9), any());
            case 3:
                return x.set(any(), any());
            case 4:
                return random.nextInt(4) == 0 ? x.cut(any(), any()) : x.undo();
            case 5:
                return x.told(random.nextInt(22) - 1);
            case 6:
                return x.unit(any(), any());
            case 7:
                return x.sign(any(), any());
            case 8:
                return x.line(any(), any());
            case 9:
                return x.block(any(), any());
            case 10:
                return x.reading(any(), any(), any(), any());
            case 11:
                return x.run(any(), any());
            case 12:
                return x.at(any(), any());
            case 13:
                return x.ends(any()) ? 1 : 0;
            case 14:
                return x.longOf(any(), any());
            default:
                return question(kind);
        }
    }

    private long question(int kind) {
        switch (kind) {
            case 15:
                return x.lines(any(), any());
            case 16:
                return x.least(any());
            case 17:
                return x.better();
            case 18:
                return x.marks(any());
            case 19:
                return x.moves();
            case 20:
                return x.lend(any());
            case 21:
                return x.nearest(any());
            case 22:
                return x.partner(any());
            case 23:
                return x.side(any(), any(), any());
            case 24:
                return x.gutter(any());
            case 25:
                return x.clash(any());
            case 26:
                return x.thick(any(), any());
            case 27:
                return x.pages(any());
            case 28:
                return x.page(any(), any(), any());
            case 29:
                return x.narrow(any());
            case 30:
                return x.status(any());
            case 31:
                return x.feed(any(), any(), any(), any(), any());
            default:
                return x.fault();
        }
    }
}
