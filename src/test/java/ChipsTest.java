/** Promises 10 to 15: CHIPS, their NEED, BLOCKS, PINS, and how they are ERASED. */
public final class ChipsTest {
    private static final int NONE = ChipBurner.NONE;
    private static final int[] FAR = {Integer.MIN_VALUE, -1000000, -1, 1000000, Integer.MAX_VALUE};

    public static void main(String[] args) {
        chipsThatAreTaken();
        chipsThatAreNot();
        newChip();
        needs();
        blocks();
        pins();
        erasing();
        wornOut();
        others();
        Check.finish();
    }

    private static ChipBurner withChip(int size, boolean erasable, int extra, int life) {
        ChipBurner x = new ChipBurner();
        Check.due("chip", x.chip(size, 7, erasable, 5, 20, 200, extra, life), 0);
        return x;
    }

    private static void chipsThatAreTaken() {
        for (int size = 8; size <= 64; size += 8) {
            ChipBurner x = new ChipBurner();
            Check.due("chip of " + size, x.chip(size, 0, false, 1, 1, 1, 0, 0), 0);
            Check.due("chip of " + size, x.chip(size, 255, true, 30, 30, 200, 5, 50), 1);
            Check.due("chip of " + size, x.chip(size, 128, true, 1, 30, 100, 3, 25), 2);
            Check.due("chip of " + size, x.chip(size, 128, true, 1, 30, 100, 3, 25), 3);
            Check.due("a fifth chip", x.chip(size, 128, true, 1, 30, 100, 3, 25), NONE);
            Check.due("about(0)", x.about(0), 4);
            for (int c = 0; c < 4; c++) {
                Check.due("chipOf(" + c + ", 0)", x.chipOf(c, 0), size);
            }
            Check.due("chipOf(4, 0)", x.chipOf(4, 0), NONE);
        }
    }

    private static void chipsThatAreNot() {
        int[][] refused = {
            {0, 7, 5, 20, 50, 1, 1}, {-8, 7, 5, 20, 50, 1, 1}, {7, 7, 5, 20, 50, 1, 1}, {9, 7, 5, 20, 50, 1, 1},
            {12, 7, 5, 20, 50, 1, 1}, {65, 7, 5, 20, 50, 1, 1}, {72, 7, 5, 20, 50, 1, 1}, {128, 7, 5, 20, 50, 1, 1},
            {8, -1, 5, 20, 50, 1, 1}, {8, 256, 5, 20, 50, 1, 1}, {8, 7, 0, 20, 50, 1, 1}, {8, 7, 21, 20, 50, 1, 1},
            {8, 7, 31, 31, 50, 1, 1}, {8, 7, 5, 31, 50, 1, 1}, {8, 7, 0, 0, 50, 1, 1}, {8, 7, -1, -1, 50, 1, 1},
            {8, 7, 5, 20, 0, 1, 1}, {8, 7, 5, 20, -1, 1, 1}, {8, 7, 5, 20, 201, 1, 1}, {8, 7, 5, 20, 50, -1, 1},
            {8, 7, 5, 20, 50, 6, 1}, {8, 7, 5, 20, 50, 1, -1}, {8, 7, 5, 20, 50, 1, 51},
        };
        ChipBurner x = new ChipBurner();
        for (int[] r : refused) {
            Check.due("chip of " + java.util.Arrays.toString(r), x.chip(r[0], r[1], true, r[2], r[3], r[4], r[5], r[6]), NONE);
            Check.due("about(0)", x.about(0), 0);
        }
        for (int far : FAR) {
            for (int which = 0; which < 7; which++) {
                int[] r = {8, 7, 5, 20, 50, 1, 1};
                r[which] = far;
                Check.due("chip of " + java.util.Arrays.toString(r), x.chip(r[0], r[1], true, r[2], r[3], r[4], r[5], r[6]), NONE);
            }
        }
        Check.due("chip", x.chip(8, 7, true, 5, 20, 50, 1, 1), 0);
    }

    private static void newChip() {
        ChipBurner x = withChip(24, true, 2, 4);
        Check.due("chipOf(0, 0)", x.chipOf(0, 0), 24);
        Check.due("chipOf(0, 1)", x.chipOf(0, 1), 24);
        Check.due("chipOf(0, 2)", x.chipOf(0, 2), NONE);
        Check.due("chipOf(0, 3)", x.chipOf(0, 3), 0);
        Check.due("chipOf(0, 4)", x.chipOf(0, 4), 0);
        for (int a = 0; a < 24; a++) {
            Check.due("LOW of " + a, x.chipOf(0, 100 + a), 255);
            Check.due("HIGH of " + a, x.chipOf(0, 200 + a), 255);
            Check.due("NEED of " + a, x.chipOf(0, 300 + a), 3);
            Check.due("COUNT of " + a, x.chipOf(0, 400 + a), 0);
            Check.due("LOGICAL " + a, x.chipOf(0, 500 + a), a);
        }
    }

    private static void needs() {
        ChipBurner x = withChip(16, true, 0, 0);
        Check.due("need(0, 0, 1)", x.need(0, 0, 1), true);
        Check.due("need(0, 15, 60)", x.need(0, 15, 60), true);
        Check.due("chipOf(0, 300)", x.chipOf(0, 300), 1);
        Check.due("chipOf(0, 315)", x.chipOf(0, 315), 60);
        Check.due("chipOf(0, 301)", x.chipOf(0, 301), 3);
        int[][] refused = {{0, 16, 1}, {0, -1, 1}, {0, 3, 0}, {0, 3, 61}, {0, 3, -1}, {1, 0, 1}, {-1, 0, 1}, {4, 0, 1}};
        for (int[] r : refused) {
            Check.due("need(" + r[0] + ", " + r[1] + ", " + r[2] + ")", x.need(r[0], r[1], r[2]), false);
        }
        for (int far : FAR) {
            Check.due("need of chip " + far, x.need(far, 0, 1), false);
            Check.due("need of address " + far, x.need(0, far, 1), false);
            Check.due("need of " + far, x.need(0, 3, far), false);
        }
        Check.due("chipOf(0, 303)", x.chipOf(0, 303), 3);
        // An address is meant, not a LOGICAL one.
        Check.due("bad(0, 0, true)", x.bad(0, 0, true), true);
        Check.due("need(0, 2, 9)", x.need(0, 2, 9), true);
        Check.due("need(0, 9, 8)", x.need(0, 9, 8), true);
        Check.due("chipOf(0, 302)", x.chipOf(0, 302), 9);
        Check.due("chipOf(0, 309)", x.chipOf(0, 309), 8);
    }

    private static void blocks() {
        ChipBurner x = withChip(64, true, 0, 0);
        Check.due("bad(0, 0, true)", x.bad(0, 0, true), true);
        Check.due("bad(0, 3, true)", x.bad(0, 3, true), true);
        Check.due("bad(0, 3, true)", x.bad(0, 3, true), true);
        Check.due("bad(0, 7, true)", x.bad(0, 7, true), true);
        Check.due("chipOf(0, 0)", x.chipOf(0, 0), 64);
        Check.due("chipOf(0, 1)", x.chipOf(0, 1), 40);
        int[] good = {1, 2, 4, 5, 6};
        for (int k = 0; k < 40; k++) {
            Check.due("chipOf(0, 500 + " + k + ")", x.chipOf(0, 500 + k), good[k / 8] * 8 + k % 8);
        }
        Check.due("chipOf(0, 540)", x.chipOf(0, 540), NONE);
        Check.due("chipOf(0, 100)", x.chipOf(0, 100), 255);
        Check.due("bad(0, 3, false)", x.bad(0, 3, false), true);
        Check.due("chipOf(0, 1)", x.chipOf(0, 1), 48);
        Check.due("chipOf(0, 516)", x.chipOf(0, 516), 24);
        for (int block = 0; block < 8; block++) {
            Check.due("bad(0, " + block + ", true)", x.bad(0, block, true), true);
        }
        Check.due("chipOf(0, 1)", x.chipOf(0, 1), 0);
        Check.due("chipOf(0, 500)", x.chipOf(0, 500), NONE);
        Check.due("bad(0, 8, true)", x.bad(0, 8, true), false);
        Check.due("bad(0, -1, true)", x.bad(0, -1, true), false);
        Check.due("bad(1, 0, true)", x.bad(1, 0, true), false);
        for (int far : FAR) {
            Check.due("bad of chip " + far, x.bad(far, 0, true), false);
            Check.due("bad of block " + far, x.bad(0, far, true), false);
        }
        x = withChip(24, true, 0, 0);
        Check.due("bad(0, 2, true)", x.bad(0, 2, true), true);
        Check.due("bad(0, 3, true)", x.bad(0, 3, true), false);
        Check.due("chipOf(0, 1)", x.chipOf(0, 1), 16);
    }

    private static void pins() {
        ChipBurner x = withChip(8, true, 0, 0);
        Check.due("contact(0, 27, false)", x.contact(0, 27, false), true);
        Check.due("chipOf(0, 2)", x.chipOf(0, 2), 27);
        Check.due("contact(0, 0, false)", x.contact(0, 0, false), true);
        Check.due("contact(0, 9, false)", x.contact(0, 9, false), true);
        Check.due("chipOf(0, 2)", x.chipOf(0, 2), 0);
        Check.due("contact(0, 0, true)", x.contact(0, 0, true), true);
        Check.due("chipOf(0, 2)", x.chipOf(0, 2), 9);
        Check.due("contact(0, 9, true)", x.contact(0, 9, true), true);
        Check.due("contact(0, 27, true)", x.contact(0, 27, true), true);
        Check.due("contact(0, 5, true)", x.contact(0, 5, true), true);
        Check.due("chipOf(0, 2)", x.chipOf(0, 2), NONE);
        Check.due("contact(0, 28, false)", x.contact(0, 28, false), false);
        Check.due("contact(0, -1, false)", x.contact(0, -1, false), false);
        Check.due("contact(1, 0, false)", x.contact(1, 0, false), false);
        for (int far : FAR) {
            Check.due("contact of chip " + far, x.contact(far, 0, false), false);
            Check.due("contact of pin " + far, x.contact(0, far, false), false);
        }
        Check.due("chipOf(0, 2)", x.chipOf(0, 2), NONE);
        Check.due("chip", x.chip(8, 0, true, 1, 1, 1, 0, 0), 1);
        Check.due("contact(1, 3, false)", x.contact(1, 3, false), true);
        Check.due("chipOf(0, 2)", x.chipOf(0, 2), NONE);
        Check.due("chipOf(1, 2)", x.chipOf(1, 2), 3);
    }

    private static void erasing() {
        ChipBurner x = withChip(16, true, 2, 2);
        Check.recipe(x, 0, "volt 9; pulse 5;", 2, 0, NONE);
        x.fill(0x3C);
        Check.due("burn", x.burn(0, 0, 7, 0, 1, 100000), 80);
        Check.due("LOW", x.chipOf(0, 115), 0x3C);
        Check.due("HIGH", x.chipOf(0, 215), 0x3C);
        Check.due("COUNT", x.chipOf(0, 415), 5);
        Check.due("need(0, 4, 10)", x.need(0, 4, 10), true);
        Check.due("bad(0, 1, true)", x.bad(0, 1, true), true);
        Check.due("erase(0)", x.erase(0), 1);
        Check.due("chipOf(0, 3)", x.chipOf(0, 3), 1);
        Check.due("pulses ever", x.chipOf(0, 4), 80);
        for (int a = 0; a < 16; a++) {
            Check.due("LOW of " + a, x.chipOf(0, 100 + a), 255);
            Check.due("HIGH of " + a, x.chipOf(0, 200 + a), 255);
            Check.due("NEED of " + a, x.chipOf(0, 300 + a), a == 4 ? 10 : 3);
            Check.due("COUNT of " + a, x.chipOf(0, 400 + a), 0);
        }
        // There is no DATA then: the same byte begins anew at 1.
        Check.due("burn", x.burn(0, 0, 7, 0, 1, 1), 1);
        Check.due("COUNT", x.chipOf(0, 400), 1);
        Check.due("erase(0)", x.erase(0), 2);
        Check.due("NEED at LIFE", x.chipOf(0, 300), 3);
        Check.due("erase(0)", x.erase(0), 3);
        Check.due("NEED beyond LIFE", x.chipOf(0, 300), 4);
        Check.due("NEED beyond LIFE", x.chipOf(0, 304), 11);
        Check.due("NEED in a BAD BLOCK", x.chipOf(0, 315), 4);
        Check.due("need(0, 0, 1)", x.need(0, 0, 1), true);
        Check.due("erase(0)", x.erase(0), 4);
        Check.due("NEED beyond LIFE", x.chipOf(0, 300), 2);
        Check.due("NEED beyond LIFE", x.chipOf(0, 315), 5);
        Check.due("the BLOCK is BAD still", x.chipOf(0, 1), 8);
    }

    private static void wornOut() {
        ChipBurner x = withChip(8, true, 0, 0);
        x.need(0, 1, 60);
        for (int n = 1; n <= 100; n++) {
            Check.due("erase(0)", x.erase(0), n);
            Check.due("NEED", x.chipOf(0, 300), 3 + n);
            Check.due("NEED", x.chipOf(0, 301), 60 + n);
        }
        Check.due("chipOf(0, 3)", x.chipOf(0, 3), 100);
    }

    private static void others() {
        ChipBurner x = withChip(16, false, 0, 0);
        Check.due("erase of Once", x.erase(0), NONE);
        Check.due("chipOf(0, 3)", x.chipOf(0, 3), 0);
        Check.due("erase(1)", x.erase(1), NONE);
        int[] none = {-1, 5, 6, 50, 99, 116, 150, 199, 216, 299, 316, 399, 416, 499, 516, 564, 599, 600, 700, 1100, -100};
        for (int what : none) {
            Check.due("chipOf(0, " + what + ")", x.chipOf(0, what), NONE);
        }
        for (int far : FAR) {
            Check.due("erase(" + far + ")", x.erase(far), NONE);
            Check.due("chipOf(" + far + ", 0)", x.chipOf(far, 0), NONE);
            Check.due("chipOf(0, " + far + ")", x.chipOf(0, far), NONE);
        }
        Check.due("chipOf(1, 0)", x.chipOf(1, 0), NONE);
    }
}
