/** Promises 18 to 21: WHY a BURNING isn't begun, BURNING itself, what is not right, and reading back. */
public final class BurningTest {
    private static final int NONE = ChipBurner.NONE;
    private static final int[] FAR = {Integer.MIN_VALUE, -1000000, -1, 1000000, Integer.MAX_VALUE};

    public static void main(String[] args) {
        pulsesOfAByte();
        tooFewVolts();
        anotherByte();
        needAndExtra();
        tryAndOk();
        eachAddressAnew();
        brokenOff();
        brokenOffAtEachPulse();
        goneOnWith();
        partOfTheImage();
        aroundBadBlocks();
        whyNot();
        whyFits();
        whyBack();
        wrongCalls();
        wrongAndRead();
        Check.finish();
    }

    /** A CHIP that bears all, with ID 7 and a RECIPE 0. */
    private static ChipBurner with(int size, int extra, String recipe) {
        ChipBurner x = new ChipBurner();
        Check.due("chip", x.chip(size, 7, true, 10, 20, 200, extra, 50), 0);
        Check.load(x, recipe);
        Check.due("steps of " + recipe, x.recipe(0) >= 0, true);
        return x;
    }

    private static void dueAddress(ChipBurner x, int a, int low, int high, int count) {
        Check.due("LOW of " + a, x.chipOf(0, 100 + a), low);
        Check.due("HIGH of " + a, x.chipOf(0, 200 + a), high);
        Check.due("COUNT of " + a, x.chipOf(0, 400 + a), count);
    }

    private static void image(ChipBurner x, String bytes) {
        Check.file(x, 0, bytes, bytes.length(), 0, NONE);
    }

    private static void pulsesOfAByte() {
        ChipBurner x = with(8, 2, "volt 10;pulse 1;");
        image(x, "\u00a5");
        int[] low = {255, 255, 0xA5, 0xA5, 0xA5};
        int[] high = {255, 255, 255, 255, 0xA5};
        for (int n = 1; n <= 5; n++) {
            Check.due("wrong", x.wrong(0, 0, 1), 1);
            Check.due("burn", x.burn(0, 0, 7, 0, 1, 100000), 1);
            dueAddress(x, 0, low[n - 1], high[n - 1], n);
            Check.due("pulses ever", x.chipOf(0, 4), n);
        }
        Check.due("wrong", x.wrong(0, 0, 1), 0);
        Check.due("burn", x.burn(0, 0, 7, 0, 1, 100000), 0);
        dueAddress(x, 0, 0xA5, 0xA5, 5);
        dueAddress(x, 1, 255, 255, 0);
    }

    private static void tooFewVolts() {
        ChipBurner x = with(8, 0, "pulse 2;volt 9;pulse 5;volt 10;pulse 2;volt 9;pulse 1;");
        image(x, "\u0001");
        Check.due("burn", x.burn(0, 0, 7, 0, 1, 100000), 10);
        dueAddress(x, 0, 255, 255, 2);
        Check.due("pulses ever", x.chipOf(0, 4), 10);
        // A PULSE below LEAST does nothing, though COUNT is enough now.
        Check.due("need", x.need(0, 0, 2), true);
        Check.due("burn", x.burn(0, 0, 7, 0, 1, 7), 7);
        dueAddress(x, 0, 255, 255, 2);
        Check.due("burn", x.burn(0, 0, 7, 0, 1, 8), 8);
        dueAddress(x, 0, 1, 1, 3);
        // Volts are 0 at first, which is below any LEAST.
        x = new ChipBurner();
        Check.due("chip", x.chip(8, 7, true, 1, 20, 200, 0, 50), 0);
        Check.recipe(x, 0, "pulse 3;volt 1;pulse 2;", 3, 0, NONE);
        image(x, "\u0001");
        Check.due("burn", x.burn(0, 0, 7, 0, 1, 100000), 5);
        dueAddress(x, 0, 255, 255, 2);
    }

    private static void anotherByte() {
        ChipBurner x = with(8, 0, "volt 15;pulse 2;");
        image(x, "\u00f0");
        Check.due("burn", x.burn(0, 0, 7, 0, 1, 100000), 2);
        dueAddress(x, 0, 255, 255, 2);
        image(x, "\u000f");
        Check.due("burn", x.burn(0, 0, 7, 0, 1, 1), 1);
        dueAddress(x, 0, 255, 255, 1);
        Check.due("burn", x.burn(0, 0, 7, 0, 1, 100000), 2);
        dueAddress(x, 0, 15, 15, 3);
        // A byte with fewer bits can follow; bits that are gone stay so.
        image(x, "\u0003");
        Check.due("burn", x.burn(0, 0, 7, 0, 1, 100000), 2);
        dueAddress(x, 0, 15, 15, 2);
        Check.due("burn", x.burn(0, 0, 7, 0, 1, 100000), 2);
        dueAddress(x, 0, 3, 3, 4);
        image(x, "\u00ff");
        Check.due("why", x.why(0, 0, 7, 0, 1), 4);
    }

    private static void needAndExtra() {
        ChipBurner x = with(8, 5, "volt 15;try 50{pulse 1;verify;}");
        x.fill(0);
        for (int a = 0; a < 8; a++) {
            Check.due("need", x.need(0, a, 1 + 6 * a), true);
        }
        int pulses = 0;
        for (int a = 0; a < 8; a++) {
            pulses += 1 + 6 * a + 5;
        }
        Check.due("burn", x.burn(0, 0, 7, 0, 1, 100000), pulses);
        for (int a = 0; a < 8; a++) {
            dueAddress(x, a, 0, 0, 1 + 6 * a + 5);
        }
        Check.due("wrong", x.wrong(0, 0, 1), 0);
        // One that needs more than the RECIPE gives is left as it is.
        x = with(8, 0, "volt 15;pulse 50;");
        Check.due("need", x.need(0, 3, 51), true);
        x.fill(0);
        Check.due("burn", x.burn(0, 0, 7, 0, 1, 100000), 400);
        Check.due("wrong", x.wrong(0, 0, 1), 1);
        dueAddress(x, 3, 255, 255, 50);
    }

    private static void tryAndOk() {
        ChipBurner x = with(8, 0, "volt 15;ok{pulse 9;}else{pulse 1;}pulse 2;ok{pulse 9;}else{pulse 1;}verify;"
            + "ok{pulse 5;}else{pulse 9;}");
        image(x, "\u0000");
        Check.due("burn", x.burn(0, 0, 7, 0, 1, 100000), 1 + 2 + 1 + 5);
        // It ends ahead of a time, not within it; and at once if OK is true already.
        x = with(8, 0, "volt 15;try 50{pulse 1;verify;pulse 1;verify;}try 3{pulse 7;}");
        image(x, "\u0000");
        Check.due("burn", x.burn(0, 0, 7, 0, 1, 100000), 4);
        // Without a verify the OK stays what it was.
        x = with(8, 0, "volt 15;try 10{pulse 1;}verify;pulse 2;ok{pulse 1;}else{}");
        image(x, "\u0000");
        Check.due("burn", x.burn(0, 0, 7, 0, 1, 100000), 13);
        // OK may turn false again: here it can't, since nothing goes back, but a try inside one sees it true.
        x = with(8, 0, "volt 15;try 4{try 2{pulse 1;verify;}}");
        image(x, "\u0000");
        Check.due("burn", x.burn(0, 0, 7, 0, 1, 100000), 3);
        x = with(8, 0, "volt 15;" + "try 1{ok{}else{".repeat(2) + "try 2{pulse 2;}" + "}}".repeat(2));
        image(x, "\u0000");
        Check.due("burn", x.burn(0, 0, 7, 0, 1, 100000), 4);
        // Verify looks at HIGH too.
        x = with(8, 4, "volt 15;pulse 3;verify;ok{}else{pulse 4;verify;}ok{pulse 10;}else{}");
        image(x, "\u0000");
        Check.due("burn", x.burn(0, 0, 7, 0, 1, 100000), 17);
    }

    private static void eachAddressAnew() {
        // Volts are 0 and OK is false again at each address.
        ChipBurner x = with(8, 0, "pulse 1;volt 15;try 5{pulse 1;verify;}");
        image(x, "\u0000\u0001");
        Check.due("burn", x.burn(0, 0, 7, 0, 1, 100000), 8);
        dueAddress(x, 0, 0, 0, 3);
        dueAddress(x, 1, 1, 1, 3);
        // An address that is right, by chance or from before, is passed by.
        x = with(8, 0, "volt 15;pulse 3;");
        image(x, "\u00ff\u0001\u00ff\u0002");
        Check.due("burn", x.burn(0, 0, 7, 0, 1, 100000), 6);
        dueAddress(x, 0, 255, 255, 0);
        dueAddress(x, 3, 2, 2, 3);
        image(x, "\u00ff\u0001\u0003\u0002");
        Check.due("burn", x.burn(0, 0, 7, 0, 1, 100000), 3);
        dueAddress(x, 1, 1, 1, 3);
    }

    private static void brokenOff() {
        ChipBurner x = with(8, 0, "volt 15;pulse 5;");
        x.fill(0);
        Check.due("burn of 0", x.burn(0, 0, 7, 0, 1, 0), 0);
        Check.due("pulses ever", x.chipOf(0, 4), 0);
        Check.due("burn of 7", x.burn(0, 0, 7, 0, 1, 7), 7);
        dueAddress(x, 0, 0, 0, 5);
        dueAddress(x, 1, 255, 255, 2);
        dueAddress(x, 2, 255, 255, 0);
        Check.due("burn of 5", x.burn(0, 0, 7, 0, 1, 5), 5);
        dueAddress(x, 1, 0, 0, 7);
        dueAddress(x, 2, 255, 255, 0);
        Check.due("the rest", x.burn(0, 0, 7, 0, 1, 30), 30);
        Check.due("nothing", x.burn(0, 0, 7, 0, 1, 30), 0);
        Check.due("pulses ever", x.chipOf(0, 4), 42);
    }

    private static void brokenOffAtEachPulse() {
        String recipe = "volt 12;try 3{pulse 2;verify;}ok{pulse 1;}else{volt 9;pulse 1;volt 20;pulse 3;}";
        for (int limit = 0; limit <= 40; limit++) {
            ChipBurner x = with(8, 1, recipe);
            image(x, "\u0012\u00ff\u0034\u0056");
            x.need(0, 2, 9);
            int made = x.burn(0, 0, 7, 0, 1, limit);
            // 4 and 1 at address 0; 6, 1 (too few volts) and 3 at address 2; 4 and 1 at address 3.
            Check.due("burn of " + limit, made, Math.min(limit, 20));
            int[] counts = {
                Math.min(limit, 5), 0, Math.max(0, Math.min(limit - 5, 6)) + Math.max(0, Math.min(limit - 12, 3)),
                Math.max(0, Math.min(limit - 15, 5)),
            };
            for (int a = 0; a < 4; a++) {
                Check.due("COUNT of " + a + " at " + limit, x.chipOf(0, 400 + a), counts[a]);
            }
            Check.due("LOW of 0", x.chipOf(0, 100), counts[0] >= 3 ? 0x12 : 255);
            Check.due("HIGH of 0", x.chipOf(0, 200), counts[0] >= 4 ? 0x12 : 255);
            Check.due("LOW of 2", x.chipOf(0, 102), counts[2] >= 9 ? 0x34 : 255);
            Check.due("HIGH of 2", x.chipOf(0, 202), 255);
        }
    }

    private static void goneOnWith() {
        ChipBurner x = with(64, 1, "volt 15;try 20{pulse 1;verify;}");
        x.fill(0x18);
        int made = 0;
        for (int n = 0; n < 64; n++) {
            made += x.burn(0, 0, 7, 0, 1, 4);
            Check.due("wrong", x.wrong(0, 0, 1), 63 - n);
        }
        Check.due("pulses in all", made, 256);
        // Broken off at every pulse, it makes no more of them than at one go.
        x = with(8, 2, "volt 15;try 20{pulse 1;verify;}");
        x.fill(0x18);
        for (int n = 1; n <= 40; n++) {
            Check.due("burn of 1", x.burn(0, 0, 7, 0, 1, 1), 1);
        }
        Check.due("burn of 1", x.burn(0, 0, 7, 0, 1, 1), 0);
        Check.due("wrong", x.wrong(0, 0, 1), 0);
    }

    private static void partOfTheImage() {
        StringBuilder text = new StringBuilder();
        for (int i = 0; i < 256; i++) {
            text.append((char) i);
        }
        for (int f = 0; f < 256; f += 17) {
            for (int w = 1; w <= 8; w++) {
                ChipBurner x = with(64, 0, "volt 15;pulse 3;");
                image(x, text.toString());
                int there = Math.min(64, (255 - f) / w + 1);
                int wrong = there;
                for (int k = 0; k < there; k++) {
                    wrong -= f + w * k == 255 ? 1 : 0;
                }
                Check.due("wrong of " + f + ", " + w, x.wrong(0, f, w), wrong);
                Check.due("burn of " + f + ", " + w, x.burn(0, 0, 7, f, w, 100000), wrong * 3);
                Check.due("wrong of " + f + ", " + w, x.wrong(0, f, w), 0);
                for (int k = 0; k < 64; k++) {
                    Check.due("LOW of " + k, x.chipOf(0, 100 + k), k < there ? f + w * k : 255);
                }
                x.fill(99);
                Check.due("read of " + f + ", " + w, x.read(0, false, f, w), there);
                for (int i = 0; i < 256; i++) {
                    boolean put = i >= f && (i - f) % w == 0 && (i - f) / w < there;
                    Check.due("image(" + i + ")", x.image(i), put ? i : 99);
                }
            }
        }
    }

    private static void aroundBadBlocks() {
        ChipBurner x = with(32, 0, "volt 15;pulse 3;");
        x.bad(0, 0, true);
        x.bad(0, 2, true);
        StringBuilder text = new StringBuilder();
        for (int i = 0; i < 32; i++) {
            text.append((char) (i + 1));
        }
        image(x, text.toString());
        Check.due("wrong", x.wrong(0, 0, 1), 16);
        Check.due("burn", x.burn(0, 0, 7, 0, 1, 100000), 48);
        for (int a = 0; a < 8; a++) {
            Check.due("BAD block 0", x.chipOf(0, 100 + a), 255);
            Check.due("block 1", x.chipOf(0, 108 + a), a + 1);
            Check.due("BAD block 2", x.chipOf(0, 116 + a), 255);
            Check.due("block 3", x.chipOf(0, 124 + a), a + 9);
        }
        x.fill(0);
        Check.due("read", x.read(0, false, 100, 1), 16);
        Check.due("image(100)", x.image(100), 1);
        Check.due("image(115)", x.image(115), 16);
        Check.due("image(116)", x.image(116), 0);
        // A BLOCK that is good again shifts what lies where.
        x.bad(0, 0, false);
        Check.due("chipOf(0, 508)", x.chipOf(0, 508), 8);
        image(x, text.toString());
        Check.due("wrong", x.wrong(0, 0, 1), 24);
        for (int block = 0; block < 4; block++) {
            x.bad(0, block, true);
        }
        Check.due("wrong without addresses", x.wrong(0, 0, 1), 0);
        Check.due("why without addresses", x.why(0, 0, 7, 0, 1), 0);
        Check.due("burn without addresses", x.burn(0, 0, 7, 0, 1, 100), 0);
        Check.due("read without addresses", x.read(0, true, 0, 1), 0);
    }

    private static void whyNot() {
        ChipBurner x = with(8, 0, "volt 21;pulse 3;");
        x.fill(0);
        x.contact(0, 27, false);
        Check.due("all but 4", x.why(0, 0, 8, 0, 1), 1);
        Check.due("burn", x.burn(0, 0, 8, 0, 1, 100), NONE);
        x.contact(0, 27, true);
        Check.due("id and recipe", x.why(0, 0, 8, 0, 1), 2);
        Check.due("burn", x.burn(0, 0, 8, 0, 1, 100), NONE);
        Check.due("recipe", x.why(0, 0, 7, 0, 1), 3);
        Check.due("burn", x.burn(0, 0, 7, 0, 1, 100), NONE);
        Check.due("burn of 0", x.burn(0, 0, 7, 0, 1, 0), NONE);
        Check.due("an empty RECIPE", x.why(0, 1, 7, 0, 1), 0);
        Check.due("an empty RECIPE", x.burn(0, 1, 7, 0, 1, 100), 0);
        Check.due("pulses ever", x.chipOf(0, 4), 0);
        x.contact(0, 0, false);
        Check.due("read without contact", x.read(0, false, 0, 1), 8);
        Check.due("erase without contact", x.erase(0), 1);
    }

    private static void fit(String recipe, int most, int bears, boolean fits) {
        ChipBurner x = new ChipBurner();
        Check.due("chip", x.chip(8, 0, false, 1, most, bears, 0, 0), 0);
        Check.load(x, recipe);
        Check.due("steps of " + recipe, x.recipe(0) > 0, true);
        Check.due("why of " + recipe, x.why(0, 0, 0, 0, 1), fits ? 0 : 3);
        Check.due("burn of " + recipe, x.burn(0, 0, 0, 0, 1, 0), fits ? 0 : NONE);
    }

    private static void whyFits() {
        fit("volt 20;pulse 1;", 20, 1, true);
        fit("volt 20;pulse 1;", 19, 1, false);
        fit("volt 30;volt 19;pulse 1;", 19, 1, true);
        fit("volt 30;verify;", 1, 1, true);
        fit("pulse 10;", 1, 10, true);
        fit("pulse 11;", 1, 10, false);
        fit("try 5{pulse 2;verify;}", 1, 10, true);
        fit("try 6{pulse 2;verify;}", 1, 10, false);
        fit("ok{pulse 11;}else{}", 1, 10, false);
        fit("ok{}else{pulse 11;}", 1, 10, false);
        fit("ok{pulse 4;}else{pulse 6;}pulse 4;", 1, 10, true);
        fit("try 2{pulse 1;volt 9;}", 8, 2, false);
        fit("try 1{pulse 1;volt 9;}", 8, 2, true);
        fit("try 50{pulse 4;}", 1, 200, true);
        fit("try 50{pulse 4;}pulse 1;", 1, 200, false);
        // 1 + 49 * (1 + 50 * 2) and 50 more: just 5,000 STEPS worked, then one beyond.
        String most = "try 49{try 50{verify;verify;}}try 48{verify;}";
        fit(most + "verify;", 1, 1, true);
        fit(most + "verify;verify;", 1, 1, false);
    }

    private static void whyBack() {
        ChipBurner x = with(8, 2, "volt 15;pulse 3;");
        image(x, "\u00ff\u00f0");
        Check.due("burn", x.burn(0, 0, 7, 0, 1, 100000), 3);
        dueAddress(x, 1, 0xF0, 255, 3);
        image(x, "\u00ff\u00f1");
        Check.due("LOW would go back", x.why(0, 0, 7, 0, 1), 4);
        Check.due("LOW would go back", x.burn(0, 0, 7, 0, 1, 9), NONE);
        image(x, "\u00ff\u00e0");
        Check.due("none goes back", x.why(0, 0, 7, 0, 1), 0);
        Check.due("not looked at", x.why(0, 0, 7, 255, 1), 0);
        Check.due("looked at", x.why(0, 0, 7, 254, 1), 4);
        x.bad(0, 0, true);
        Check.due("in a BAD BLOCK", x.why(0, 0, 7, 254, 1), 0);
        x.bad(0, 0, false);
        x.contact(0, 3, false);
        Check.due("contact first", x.why(0, 0, 7, 254, 1), 1);
        x.contact(0, 3, true);
        Check.due("id first", x.why(0, 0, 0, 254, 1), 2);
        Check.recipe(x, 0, "volt 30;pulse 1;", 2, 0, NONE);
        Check.due("RECIPE first", x.why(0, 0, 7, 254, 1), 3);
    }

    private static void wrongCalls() {
        ChipBurner x = with(8, 0, "volt 15;pulse 3;");
        x.fill(0);
        int[][] refused = {
            {1, 0, 7, 0, 1}, {-1, 0, 7, 0, 1}, {4, 0, 7, 0, 1}, {0, -1, 7, 0, 1}, {0, 4, 7, 0, 1}, {0, 0, -1, 0, 1},
            {0, 0, 256, 0, 1}, {0, 0, 7, -1, 1}, {0, 0, 7, 256, 1}, {0, 0, 7, 0, 0}, {0, 0, 7, 0, 9}, {0, 0, 7, 0, -1},
        };
        for (int[] r : refused) {
            String call = java.util.Arrays.toString(r);
            Check.due("why" + call, x.why(r[0], r[1], r[2], r[3], r[4]), NONE);
            Check.due("burn" + call, x.burn(r[0], r[1], r[2], r[3], r[4], 100), NONE);
        }
        for (int far : FAR) {
            for (int which = 0; which < 5; which++) {
                int[] r = {0, 0, 7, 0, 1};
                r[which] = far;
                Check.due("why", x.why(r[0], r[1], r[2], r[3], r[4]), NONE);
                Check.due("burn", x.burn(r[0], r[1], r[2], r[3], r[4], 100), NONE);
            }
            Check.due("burn", x.burn(0, 0, 7, 0, 1, far), NONE);
            Check.due("wrong", x.wrong(far, 0, 1), NONE);
            Check.due("wrong", x.wrong(0, far, 1), NONE);
            Check.due("wrong", x.wrong(0, 0, far), NONE);
            Check.due("read", x.read(far, true, 0, 1), NONE);
            Check.due("read", x.read(0, true, far, 1), NONE);
            Check.due("read", x.read(0, true, 0, far), NONE);
        }
        Check.due("burn", x.burn(0, 0, 7, 0, 1, 100001), NONE);
        int[][] parts = {{1, 0, 1}, {0, 256, 1}, {0, 0, 0}, {0, 0, 9}};
        for (int[] p : parts) {
            Check.due("wrong", x.wrong(p[0], p[1], p[2]), NONE);
            Check.due("read", x.read(p[0], false, p[1], p[2]), NONE);
        }
        Check.due("pulses ever", x.chipOf(0, 4), 0);
        Check.due("image(0)", x.image(0), 0);
        Check.due("burn", x.burn(0, 0, 7, 255, 8, 100000), 3);
    }

    private static void wrongAndRead() {
        ChipBurner x = with(16, 3, "volt 15;pulse 4;");
        image(x, "\u0011\u0033");
        x.need(0, 1, 1);
        Check.due("burn", x.burn(0, 0, 7, 0, 1, 100000), 8);
        dueAddress(x, 0, 0x11, 255, 4);
        dueAddress(x, 1, 0x33, 0x33, 4);
        Check.due("HIGH isn't the byte", x.wrong(0, 0, 1), 1);
        Check.due("read LOW", x.read(0, false, 40, 3), 16);
        Check.due("image(40)", x.image(40), 0x11);
        Check.due("image(41)", x.image(41), 255);
        Check.due("image(43)", x.image(43), 0x33);
        Check.due("read HIGH", x.read(0, true, 240, 1), 16);
        Check.due("image(240)", x.image(240), 255);
        Check.due("image(241)", x.image(241), 0x33);
        Check.due("read at the end", x.read(0, false, 250, 4), 2);
        Check.due("image(250)", x.image(250), 0x11);
        Check.due("image(254)", x.image(254), 0x33);
        Check.due("about(2)", x.about(2), 2);
    }
}
