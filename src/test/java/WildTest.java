import java.util.Random;

/** Arguments of all sizes in any state: nothing may be thrown. */
public final class WildTest {
    private static final int[] EDGES = {
        Integer.MIN_VALUE, Integer.MIN_VALUE + 1, -65536, -257, -256, -100, -8, -2, -1, 0, 1, 2, 3, 4, 5, 7, 8, 9, 15, 16, 20, 27,
        28, 30, 31, 50, 51, 60, 61, 63, 64, 65, 99, 100, 127, 128, 163, 199, 200, 201, 255, 256, 257, 300, 399, 400, 401, 499,
        500, 563, 600, 1000, 65535, 65536, 100000, 100001, 1000000, Integer.MAX_VALUE - 1, Integer.MAX_VALUE,
    };
    private static final String[] PIECES = {
        "volt 12;", "pulse 3;", "verify;", "try 4{", "try 50{", "ok{", "}else{", "}", "volt", "9999999999", " ", "\n", ";", "{",
        ":00000001FF\n", "S9030000FC\n", ":0100000001FE\n", "S104000001FA\n", "\r", "\u0000", "\u00ff", "volt 30;pulse 50;",
    };

    private final Random random;
    private final ChipBurner x = new ChipBurner();

    private WildTest(int seed) {
        random = new Random(seed);
    }

    public static void main(String[] args) {
        for (int seed = 0; seed < 3000; seed++) {
            WildTest test = new WildTest(seed);
            for (int n = 0; n < 150; n++) {
                String thrown = test.callOne();
                Check.due("seed " + seed + ", call " + n + thrown, thrown.isEmpty(), true);
            }
        }
        Check.finish();
    }

    private int wild() {
        return random.nextInt(8) == 0 ? random.nextInt() : EDGES[random.nextInt(EDGES.length)];
    }

    private int small(int n) {
        return random.nextInt(10) == 0 ? wild() : random.nextInt(n);
    }

    private String callOne() {
        try {
            int which = random.nextInt(26);
            if (which < 11) {
                tapeCall(which);
            } else {
                chipCall(which);
            }
            return "";
        } catch (Throwable t) {
            return " threw " + t;
        }
    }

    private void tapeCall(int which) {
        switch (which) {
            case 0: x.feed(random.nextInt(), random.nextInt(), random.nextInt(), random.nextInt(), random.nextInt()); break;
            case 1: case 2: case 3: Check.load(x, wildText()); break;
            case 4: x.end(wild()); break;
            case 5: x.file(small(3)); break;
            case 6: x.fault(wild()); break;
            case 7: x.write(small(3), small(256), small(256)); break;
            case 8: x.tape(wild()); break;
            case 9: x.image(wild()); break;
            default: x.fill(small(256)); break;
        }
    }

    private void chipCall(int which) {
        switch (which) {
            case 11: x.chip(8 * small(9), small(256), random.nextBoolean(), small(31), small(31), small(201), small(6), small(51)); break;
            case 12: x.chip(wild(), wild(), random.nextBoolean(), wild(), wild(), wild(), wild(), wild()); break;
            case 13: x.need(small(4), small(64), small(61)); break;
            case 14: x.bad(small(4), small(8), random.nextBoolean()); break;
            case 15: x.contact(small(4), small(28), random.nextInt(8) > 0); break;
            case 16: x.erase(small(4)); break;
            case 17: x.chipOf(small(4), random.nextBoolean() ? wild() : random.nextInt(700)); break;
            case 18: case 19: x.recipe(small(4)); break;
            case 20: x.walk(small(4), small(4)); break;
            case 21: x.why(small(4), small(4), small(256), small(256), small(9)); break;
            case 22: x.burn(small(4), small(4), small(256), small(256), small(9), wild()); break;
            case 23: x.wrong(small(4), small(256), small(9)); break;
            case 24: x.read(small(4), random.nextBoolean(), small(256), small(9)); break;
            default: x.about(wild()); break;
        }
    }

    private String wildText() {
        StringBuilder text = new StringBuilder();
        int pieces = random.nextInt(50);
        for (int i = 0; i < pieces; i++) {
            text.append(PIECES[random.nextInt(PIECES.length)]);
        }
        return text.substring(0, Math.min(text.length(), random.nextBoolean() ? 200 : 400));
    }
}
