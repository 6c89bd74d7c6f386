import java.util.Arrays;

/** The sentences of 'Terms' III about working and BURNING, and of promises 18 to 21, that name a boundary, one test for each. */
public final class BurnEdgesTest {
    private static final int NONE = ChipBurner.NONE;
    private static final int MAX = Integer.MAX_VALUE;
    private static final int MIN = Integer.MIN_VALUE;

    public static void main(String[] args) {
        voltsAtFirst();
        okIsFalseAtFirst();
        verifyLooksAtBoth();
        tryEndsAheadOfATime();
        tryNoMoreTimesThanTold();
        okFirstOrOthers();
        mostVoltsJustMet();
        bearsJustMet();
        fiveThousandSteps();
        fitsWithoutSteps();
        byteOfEachLogicalAddress();
        toTheLastByte();
        toTheLastLogicalAddress();
        whichWhyComesFirst();
        whyContact();
        whyId();
        whyBack();
        whyBackOnlyWhereBurnt();
        whyOfOthers();
        rightAddressesAreLeft();
        brokenOffAtNone();
        brokenOffAtOne();
        brokenOffAtEach();
        brokenOffBetweenAddresses();
        goneOnWith();
        goneOnBeginsAnew();
        pulsesTold();
        burnOfEachId();
        burnOfOthers();
        notBegun();
        wrongCounted();
        wrongOfOthers();
        readLowAndHigh();
        readToTheLastByte();
        readOfOthers();
        Check.finish();
    }

    /** CHIP 0 of ID 7 that takes 10 to 20 volts and bears 200 pulses, and RECIPE 0. */
    private static ChipBurner with(int size, int extra, String recipe) {
        ChipBurner x = new ChipBurner();
        Check.due("chip", x.chip(size, 7, true, 10, 20, 200, extra, 50), 0);
        Check.load(x, recipe);
        Check.due(recipe + " is read", x.recipe(0) != NONE, true);
        return x;
    }

    private static void image(ChipBurner x, int... bytes) {
        StringBuilder text = new StringBuilder();
        for (int b : bytes) {
            text.append((char) b);
        }
        Check.file(x, 0, text.toString(), bytes.length, 0, NONE);
    }

    private static void dueAddress(ChipBurner x, int a, int low, int high, int count) {
        Check.due("LOW of " + a, x.chipOf(0, 100 + a), low);
        Check.due("HIGH of " + a, x.chipOf(0, 200 + a), high);
        Check.due("COUNT of " + a, x.chipOf(0, 400 + a), count);
    }

    /** How many pulses a RECIPE makes at one address that needs so many. */
    private static void makes(String recipe, int need, int pulses) {
        ChipBurner x = with(8, 0, recipe);
        Check.due("need", x.need(0, 0, need), true);
        image(x, 0);
        Check.due("pulses of " + recipe + " with NEED " + need, x.burn(0, 0, 7, 0, 1, 100000), pulses);
    }

    private static void voltsAtFirst() {
        Check.sentence("volts 0 at first; volt sets them");
        ChipBurner x = new ChipBurner();
        x.chip(8, 7, true, 1, 20, 200, 0, 0);
        x.need(0, 0, 1);
        x.need(0, 1, 1);
        Check.recipe(x, 0, "pulse 2;volt 1;pulse 3;", 3, 0, NONE);
        image(x, 4, 5);
        // At the second address they are 0 again.
        Check.due("burn", x.burn(0, 0, 7, 0, 1, 100000), 10);
        dueAddress(x, 0, 4, 4, 3);
        dueAddress(x, 1, 5, 5, 3);
        // And with a burning that goes on.
        image(x, 0, 0);
        Check.due("burn", x.burn(0, 0, 7, 0, 1, 2), 2);
        dueAddress(x, 0, 4, 4, 3);
        Check.due("burn", x.burn(0, 0, 7, 0, 1, 3), 3);
        dueAddress(x, 0, 0, 0, 1);
    }

    private static void okIsFalseAtFirst() {
        Check.sentence("(OK is false at first.)");
        makes("volt 10;ok{pulse 9;}else{pulse 1;}", 1, 1);
        makes("volt 10;try 2{pulse 3;}", 1, 6);
        makes("volt 10;pulse 1;ok{pulse 9;}else{pulse 2;}", 1, 3);
        // At the second address it is false again.
        ChipBurner x = with(8, 0, "volt 10;ok{pulse 9;}else{pulse 3;}verify;ok{}else{pulse 40;}");
        image(x, 1, 2, 3);
        Check.due("burn", x.burn(0, 0, 7, 0, 1, 100000), 9);
    }

    private static void verifyLooksAtBoth() {
        Check.sentence("verify: OK is whether LOW and HIGH are that byte");
        for (int extra = 0; extra <= 5; extra++) {
            for (int pulses = 1; pulses <= 10; pulses++) {
                ChipBurner x = with(8, extra, "volt 10;pulse " + pulses + ";verify;ok{pulse 1;}else{pulse 2;}");
                image(x, 0x3C);
                boolean right = pulses >= 3 + extra;
                Check.due("EXTRA " + extra + ", pulses " + pulses, x.burn(0, 0, 7, 0, 1, 100000), pulses + (right ? 1 : 2));
            }
        }
        // What it found stays till the next verify.
        makes("volt 10;verify;pulse 3;ok{pulse 9;}else{pulse 1;}", 3, 4);
        makes("volt 10;verify;pulse 3;verify;ok{pulse 9;}else{pulse 1;}", 3, 12);
    }

    private static void tryEndsAheadOfATime() {
        Check.sentence("it ends ahead of a time if OK is true");
        makes("volt 10;pulse 1;verify;try 9{pulse 1;}", 1, 1);
        makes("volt 10;pulse 1;verify;try 9{pulse 1;}", 2, 10);
        // Within a time it goes on to the end.
        makes("volt 10;try 9{pulse 1;verify;pulse 5;}", 1, 6);
        makes("volt 10;try 9{pulse 1;verify;pulse 5;}", 2, 12);
        for (int need = 1; need <= 9; need++) {
            makes("volt 10;try 9{pulse 1;verify;}", need, need);
            // Each third pulse is not verified, so that it takes one more to see what it did.
            makes("volt 10;try 9{try 2{pulse 1;verify;}pulse 1;}", need, need + (need % 3 == 0 ? 2 : 1));
        }
    }

    private static void tryNoMoreTimesThanTold() {
        Check.sentence("try: its STEPS so many times");
        for (int times : new int[] {1, 2, 49, 50}) {
            makes("volt 10;try " + times + "{pulse 1;}", 1, times);
            makes("volt 10;try " + times + "{pulse 1;verify;}", 60, times);
            makes("volt 10;try " + times + "{pulse 1;verify;}", times, times);
        }
        makes("volt 10;try 2{try 3{pulse 4;}}", 60, 24);
        makes("volt 10;try 3{}pulse 1;", 60, 1);
        makes("volt 10;" + "try 2{".repeat(5) + "pulse 1;" + "}".repeat(5), 60, 32);
        makes("try 2{".repeat(5) + "volt 10;pulse 1;verify;" + "}".repeat(5), 5, 5);
    }

    private static void okFirstOrOthers() {
        Check.sentence("ok: the first STEPS if OK, else the others");
        makes("volt 10;pulse 1;verify;ok{pulse 2;}else{pulse 4;}pulse 8;", 1, 11);
        makes("volt 10;pulse 1;verify;ok{pulse 2;}else{pulse 4;}pulse 8;", 2, 13);
        makes("volt 10;pulse 1;verify;ok{}else{pulse 4;}", 1, 1);
        makes("volt 10;pulse 1;verify;ok{pulse 2;}else{}", 2, 1);
        makes("volt 10;pulse 1;verify;" + "ok{".repeat(5) + "pulse 2;" + "}else{pulse 4;}".repeat(5), 1, 3);
        makes("volt 10;pulse 1;verify;" + "ok{pulse 4;}else{".repeat(5) + "pulse 2;" + "}".repeat(5), 2, 3);
        // What is verified in the first STEPS does not lead to the others.
        makes("volt 10;ok{pulse 1;}else{pulse 3;verify;}", 3, 3);
    }

    private static void fit(String recipe, int most, int bears, boolean fits) {
        ChipBurner x = new ChipBurner();
        Check.due("chip", x.chip(8, 7, false, 1, most, bears, 0, 0), 0);
        Check.load(x, recipe);
        Check.due(recipe + " is read", x.recipe(0) != NONE, true);
        x.fill(0);
        String call = recipe + " with MOST " + most + ", BEARS " + bears;
        Check.due("why of " + call, x.why(0, 0, 7, 0, 1), fits ? 0 : 3);
        Check.due("burn of " + call, x.burn(0, 0, 7, 0, 1, 1) != NONE, fits);
    }

    private static void mostVoltsJustMet() {
        Check.sentence("It FITS a CHIP if on no WAY a pulse is made at more than MOST volts");
        for (int most : new int[] {1, 2, 15, 29, 30}) {
            for (int volts = most - 1; volts <= Math.min(30, most + 1); volts++) {
                fit("volt " + volts + ";pulse 1;", most, 200, volts <= most);
                fit("ok{volt " + volts + ";}else{}pulse 1;", most, 200, volts <= most);
                fit("ok{}else{volt " + volts + ";}pulse 1;", most, 200, volts <= most);
                fit("try 2{pulse 1;volt " + volts + ";}", most, 200, volts <= most);
                // Volts without a pulse are none that a CHIP must bear.
                fit("pulse 1;volt " + volts + ";", most, 200, true);
                fit("try 1{pulse 1;volt " + volts + ";}", most, 200, true);
                fit("volt " + volts + ";verify;volt 1;pulse 1;", most, 200, true);
            }
        }
    }

    private static void bearsJustMet() {
        Check.sentence("nor more pulses in all than it BEARS");
        for (int bears : new int[] {1, 2, 49, 50}) {
            for (int pulses = Math.max(1, bears - 1); pulses <= Math.min(50, bears + 1); pulses++) {
                fit("pulse " + pulses + ";", 30, bears, pulses <= bears);
                fit("try " + pulses + "{pulse 1;verify;}", 30, bears, pulses <= bears);
                fit("ok{pulse " + pulses + ";}else{}", 30, bears, pulses <= bears);
                fit("ok{}else{pulse " + pulses + ";}", 30, bears, pulses <= bears);
                fit("ok{verify;pulse " + pulses + ";}else{pulse 1;}", 30, bears, pulses <= bears);
            }
        }
        fit("try 50{pulse 4;}", 30, 200, true);
        fit("try 50{pulse 4;}", 30, 199, false);
        fit("try 50{pulse 4;}pulse 1;", 30, 200, false);
        fit("try 50{ok{pulse 3;}else{pulse 4;}}", 30, 199, false);
        fit("try 50{try 50{try 50{try 50{try 50{pulse 50;}}}}}", 30, 200, false);
        // It is borne at each address: all of them together may be more.
        ChipBurner x = with(64, 0, "volt 10;try 4{pulse 50;}");
        x.fill(0);
        Check.due("burn", x.burn(0, 0, 7, 0, 1, 100000), 12800);
    }

    private static void fiveThousandSteps() {
        Check.sentence("nor more than 5,000 STEPS worked (each time that one is: one; try and ok too)");
        // 1 + 49 * (1 + 50 * 2) is 4950.
        String many = "try 49{try 50{verify;volt1;}}";
        fit(many + "try 48{verify;}", 30, 1, true);
        fit(many + "try 49{verify;}", 30, 1, true);
        fit(many + "try 50{verify;}", 30, 1, false);
        fit(many + "try 48{verify;}ok{}else{}", 30, 1, true);
        fit(many + "try 49{verify;}ok{}else{}", 30, 1, false);
        fit(many + "try 49{verify;}try 50{}", 30, 1, false);
        fit(many + "try 48{verify;}ok{verify;}else{}", 30, 1, false);
        fit(many + "try 48{verify;}ok{}else{verify;}", 30, 1, false);
        fit(many + "try 49{verify;}pulse 1;", 30, 1, false);
        fit(many + "try 48{verify;}pulse 1;", 30, 1, true);
        fit("try 50{".repeat(5) + "verify;" + "}".repeat(5), 30, 1, false);
    }

    private static void fitsWithoutSteps() {
        Check.sentence("It FITS a CHIP (a RECIPE without STEPS, or without a pulse)");
        fit("", 1, 1, true);
        fit("volt 30;", 1, 1, true);
        ChipBurner x = with(8, 0, "");
        x.fill(0);
        for (int r = 0; r < 4; r++) {
            Check.due("why of RECIPE " + r, x.why(0, r, 7, 0, 1), 0);
            Check.due("burn with RECIPE " + r, x.burn(0, r, 7, 0, 1, 100), 0);
        }
        Check.due("wrong", x.wrong(0, 0, 1), 8);
    }

    private static void byteOfEachLogicalAddress() {
        Check.sentence("LOGICAL address k gets the byte f + w k");
        for (int f : new int[] {0, 1, 100, 247, 248, 249, 254, 255}) {
            for (int w = 1; w <= 8; w++) {
                ChipBurner x = with(16, 0, "volt 10;pulse 3;");
                x.bad(0, 0, true);
                int[] bytes = new int[256];
                for (int i = 0; i < 256; i++) {
                    bytes[i] = i ^ 0x5A;
                }
                image(x, bytes);
                x.burn(0, 0, 7, f, w, 100000);
                for (int k = 0; k < 8; k++) {
                    int from = f + w * k;
                    Check.due("f " + f + ", w " + w + ", k " + k, x.chipOf(0, 108 + k), from < 256 ? bytes[from] : 255);
                    Check.due("the BAD BLOCK", x.chipOf(0, 100 + k), 255);
                }
            }
        }
    }

    private static void toTheLastByte() {
        Check.sentence("to the last LOGICAL address, or the last byte there is (the last byte)");
        int[][] cases = {{255, 1, 1}, {255, 8, 1}, {254, 1, 2}, {254, 2, 1}, {248, 1, 8}, {247, 8, 2}, {248, 8, 1}, {239, 8, 3}, {0, 8, 32}, {7, 8, 32}, {3, 4, 64}, {4, 4, 63}};
        for (int[] c : cases) {
            ChipBurner x = with(64, 0, "volt 10;pulse 1;");
            x.fill(0);
            Check.due("wrong" + Arrays.toString(c), x.wrong(0, c[0], c[1]), c[2]);
            Check.due("burn" + Arrays.toString(c), x.burn(0, 0, 7, c[0], c[1], 100000), c[2]);
            Check.due("COUNT of the last", x.chipOf(0, 400 + c[2] - 1), 1);
            Check.due("COUNT behind it", x.chipOf(0, 400 + c[2]), c[2] < 64 ? 0 : NONE);
            Check.due("read" + Arrays.toString(c), x.read(0, false, c[0], c[1]), c[2]);
        }
    }

    private static void toTheLastLogicalAddress() {
        Check.sentence("to the last LOGICAL address, or the last byte there is (the last LOGICAL address)");
        for (int size = 8; size <= 64; size += 8) {
            for (int bad = 0; bad <= 1; bad++) {
                ChipBurner x = with(size, 0, "volt 10;pulse 1;");
                x.fill(0);
                x.bad(0, size / 8 - 1, bad == 1);
                int there = size - 8 * bad;
                Check.due("wrong", x.wrong(0, 0, 1), there);
                Check.due("burn", x.burn(0, 0, 7, 0, 1, 100000), there);
                x.fill(1);
                Check.due("read", x.read(0, false, 0, 1), there);
                Check.due("image ahead", there == 0 ? 255 : x.image(there - 1), 255);
                Check.due("image behind", x.image(there), 1);
            }
        }
    }

    private static void whichWhyComesFirst() {
        Check.sentence("WHY it isn't begun: 1 a contact lacks; 2 another ID than told; 3 it doesn't FIT; 4 a bit would have to go back");
        for (int mix = 0; mix < 16; mix++) {
            ChipBurner x = with(8, 0, "volt 10;pulse 3;");
            Check.recipe(x, 1, "volt 21;pulse 3;", 2, 0, NONE);
            image(x, 0xF0);
            Check.due("burn", x.burn(0, 0, 7, 0, 1, 100), 3);
            boolean contact = (mix & 1) != 0;
            boolean id = (mix & 2) != 0;
            boolean fits = (mix & 4) != 0;
            boolean back = (mix & 8) != 0;
            x.contact(0, 27, !contact);
            x.fill(back ? 0xF1 : 0xE0);
            int due = contact ? 1 : id ? 2 : fits ? 3 : back ? 4 : 0;
            int recipe = fits ? 1 : 0;
            Check.due("why of " + mix, x.why(0, recipe, id ? 8 : 7, 0, 1), due);
            Check.due("burn of " + mix, x.burn(0, recipe, id ? 8 : 7, 0, 1, 9), due == 0 ? 9 : NONE);
            Check.due("pulses ever", x.chipOf(0, 4), due == 0 ? 12 : 3);
        }
    }

    private static void whyContact() {
        Check.sentence("1 a contact lacks");
        ChipBurner x = with(8, 0, "");
        for (int pin : new int[] {0, 1, 26, 27}) {
            x.contact(0, pin, false);
            Check.due("without PIN " + pin, x.why(0, 0, 7, 0, 1), 1);
            x.contact(0, pin, true);
            Check.due("with all", x.why(0, 0, 7, 0, 1), 0);
        }
        x.contact(0, 28, false);
        Check.due("without what is no PIN", x.why(0, 0, 7, 0, 1), 0);
        x.chip(8, 7, true, 10, 20, 200, 0, 0);
        x.contact(1, 0, false);
        Check.due("with another CHIP's lacking", x.why(0, 0, 7, 0, 1), 0);
    }

    private static void whyId() {
        Check.sentence("2 another ID than told");
        for (int id : new int[] {0, 1, 127, 128, 254, 255}) {
            ChipBurner x = new ChipBurner();
            x.chip(8, id, true, 10, 20, 200, 0, 0);
            for (int told = 0; told < 256; told++) {
                Check.due("ID " + id + ", told " + told, x.why(0, 0, told, 0, 1), told == id ? 0 : 2);
            }
        }
    }

    private static void whyBack() {
        Check.sentence("4 a bit would have to go back: LOW or HIGH has a 0 where the byte has a 1");
        for (int bit = 0; bit < 8; bit++) {
            int without = 255 ^ 1 << bit;
            ChipBurner x = with(8, 1, "volt 10;pulse 3;");
            image(x, without);
            // LOW alone has lost the bit.
            Check.due("burn", x.burn(0, 0, 7, 0, 1, 100), 3);
            dueAddress(x, 0, without, 255, 3);
            Check.due("the same byte", x.why(0, 0, 7, 0, 1), 0);
            x.fill(255);
            Check.due("all bits", x.why(0, 0, 7, 0, 1), 4);
            x.fill(1 << bit);
            Check.due("that bit alone", x.why(0, 0, 7, 0, 1), 4);
            x.fill(0);
            Check.due("no bits", x.why(0, 0, 7, 0, 1), 0);
            image(x, without);
            Check.due("burn", x.burn(0, 0, 7, 0, 8, 1), 1);
            dueAddress(x, 0, without, without, 4);
            x.fill(255);
            Check.due("all bits", x.why(0, 0, 7, 0, 1), 4);
            x.erase(0);
            Check.due("all bits of an ERASED one", x.why(0, 0, 7, 0, 1), 0);
        }
        // HIGH loses no bit ahead of LOW, so it never has a 0 alone.
        ChipBurner x = with(8, 0, "volt 10;pulse 3;");
        image(x, 0x0F);
        Check.due("burn", x.burn(0, 0, 7, 0, 1, 100), 3);
        image(x, 0x1F);
        Check.due("LOW and HIGH", x.why(0, 0, 7, 0, 1), 4);
        Check.due("burn", x.burn(0, 0, 7, 0, 1, 100), NONE);
        dueAddress(x, 0, 0x0F, 0x0F, 3);
    }

    private static void whyBackOnlyWhereBurnt() {
        Check.sentence("4 a bit would have to go back (at a LOGICAL address that gets a byte)");
        ChipBurner x = with(16, 0, "volt 10;pulse 3;");
        int[] bytes = new int[256];
        image(x, bytes);
        Check.due("burn of all", x.burn(0, 0, 7, 0, 1, 100000), 48);
        x.bad(0, 0, true);
        x.erase(0);
        // Address 15, the last LOGICAL one, has a 0 then, and none of the others.
        Arrays.fill(bytes, 255);
        bytes[7] = 0xFE;
        image(x, bytes);
        Check.due("burn", x.burn(0, 0, 7, 0, 1, 100000), 3);
        dueAddress(x, 15, 0xFE, 0xFE, 3);
        Check.due("the same bytes", x.why(0, 0, 7, 0, 1), 0);
        x.fill(255);
        Check.due("the last LOGICAL address", x.why(0, 0, 7, 0, 1), 4);
        Check.due("the last byte for it", x.why(0, 0, 7, 248, 1), 4);
        Check.due("no byte for it", x.why(0, 0, 7, 249, 1), 0);
        Check.due("the last byte for it", x.why(0, 0, 7, 199, 8), 4);
        Check.due("no byte for it", x.why(0, 0, 7, 200, 8), 0);
        x.bad(0, 0, false);
        Check.due("16 LOGICAL addresses", x.why(0, 0, 7, 240, 1), 4);
        Check.due("no byte for it", x.why(0, 0, 7, 241, 1), 0);
        x.bad(0, 1, true);
        Check.due("in a BAD BLOCK", x.why(0, 0, 7, 0, 1), 0);
    }

    private static void whyOfOthers() {
        Check.sentence("NONE: no such CHIP, RECIPE, id (0 .. 255), f (0 .. 255), w (1 .. 8).");
        ChipBurner x = with(8, 0, "");
        int[] lowest = {0, 0, 0, 0, 1};
        int[] highest = {0, 3, 255, 255, 8};
        for (int which = 0; which < 5; which++) {
            for (int v : new int[] {lowest[which], highest[which]}) {
                int[] r = {0, 0, 7, 0, 1};
                r[which] = v;
                Check.due("why" + Arrays.toString(r), x.why(r[0], r[1], r[2], r[3], r[4]), which == 2 ? 2 : 0);
            }
            for (int v : new int[] {lowest[which] - 1, highest[which] + 1, -256, 256, 1000, MAX, MIN}) {
                int[] r = {0, 0, 7, 0, 1};
                r[which] = v;
                Check.due("why" + Arrays.toString(r), x.why(r[0], r[1], r[2], r[3], r[4]), NONE);
            }
        }
        // NONE even where a contact lacks.
        x.contact(0, 0, false);
        Check.due("why", x.why(0, 0, 256, 0, 1), NONE);
        Check.due("why", x.why(0, 4, 7, 0, 1), NONE);
        Check.due("why", x.why(0, 0, 7, 256, 1), NONE);
        Check.due("why", x.why(0, 0, 7, 0, 9), NONE);
        Check.due("why", x.why(0, 0, 7, 0, 0), NONE);
        ChipBurner y = new ChipBurner();
        Check.due("why without CHIPS", y.why(0, 0, 7, 0, 1), NONE);
    }

    private static void rightAddressesAreLeft() {
        Check.sentence("Else LOGICAL address by address where LOW or HIGH isn't the byte, the RECIPE works.");
        ChipBurner x = with(8, 2, "volt 10;pulse 3;");
        image(x, 255, 0x0F, 255, 0xF0);
        Check.due("burn", x.burn(0, 0, 7, 0, 1, 100000), 6);
        dueAddress(x, 0, 255, 255, 0);
        dueAddress(x, 1, 0x0F, 255, 3);
        dueAddress(x, 3, 0xF0, 255, 3);
        // HIGH isn't the byte yet.
        Check.due("burn", x.burn(0, 0, 7, 0, 1, 2), 2);
        dueAddress(x, 1, 0x0F, 0x0F, 5);
        Check.due("burn", x.burn(0, 0, 7, 0, 1, 100000), 3);
        dueAddress(x, 1, 0x0F, 0x0F, 5);
        dueAddress(x, 3, 0xF0, 0xF0, 6);
        Check.due("burn of what is right", x.burn(0, 0, 7, 0, 1, 100000), 0);
        Check.due("pulses ever", x.chipOf(0, 4), 11);
    }

    private static void brokenOffAtNone() {
        Check.sentence("broken off when so many pulses (0 .. 100000) were made (0)");
        ChipBurner x = with(8, 0, "volt 10;pulse 1;");
        x.need(0, 0, 1);
        x.fill(0);
        for (int n = 0; n < 3; n++) {
            Check.due("burn of 0", x.burn(0, 0, 7, 0, 1, 0), 0);
        }
        for (int a = 0; a < 8; a++) {
            dueAddress(x, a, 255, 255, 0);
        }
        Check.due("pulses ever", x.chipOf(0, 4), 0);
        Check.due("wrong", x.wrong(0, 0, 1), 8);
    }

    private static void brokenOffAtOne() {
        Check.sentence("broken off when so many pulses (0 .. 100000) were made (1)");
        ChipBurner x = with(8, 0, "volt 10;pulse 50;");
        x.need(0, 0, 2);
        x.fill(0);
        Check.due("burn of 1", x.burn(0, 0, 7, 0, 1, 1), 1);
        dueAddress(x, 0, 255, 255, 1);
        dueAddress(x, 1, 255, 255, 0);
        Check.due("pulses ever", x.chipOf(0, 4), 1);
        Check.due("burn of 1", x.burn(0, 0, 7, 0, 1, 1), 1);
        dueAddress(x, 0, 0, 0, 2);
        Check.due("burn of 1", x.burn(0, 0, 7, 0, 1, 1), 1);
        dueAddress(x, 0, 0, 0, 2);
        dueAddress(x, 1, 255, 255, 1);
    }

    private static void brokenOffAtEach() {
        Check.sentence("It may be broken off when so many pulses have been made: nothing more is worked then");
        // At each of four addresses 2 pulses without effect, then 3 that count: those with NEED 3 are right then.
        String recipe = "pulse 2;volt 10;try 3{pulse 1;verify;}";
        for (int limit = 0; limit <= 22; limit++) {
            ChipBurner x = with(8, 0, recipe);
            image(x, 1, 2, 3, 4);
            Check.due("burn of " + limit, x.burn(0, 0, 7, 0, 1, limit), Math.min(limit, 20));
            Check.due("pulses ever", x.chipOf(0, 4), Math.min(limit, 20));
            for (int a = 0; a < 4; a++) {
                int count = Math.max(0, Math.min(3, limit - 5 * a - 2));
                dueAddress(x, a, count == 3 ? a + 1 : 255, count == 3 ? a + 1 : 255, count);
            }
            dueAddress(x, 4, 255, 255, 0);
            Check.due("wrong", x.wrong(0, 0, 1), 4 - Math.min(4, limit / 5));
        }
    }

    private static void brokenOffBetweenAddresses() {
        Check.sentence("nothing more is worked then (the last pulse of an address is the last of all)");
        ChipBurner x = with(8, 0, "volt 10;try 5{pulse 3;verify;}");
        image(x, 1, 2);
        Check.due("burn of 3", x.burn(0, 0, 7, 0, 1, 3), 3);
        dueAddress(x, 0, 1, 1, 3);
        dueAddress(x, 1, 255, 255, 0);
        Check.due("burn of 3", x.burn(0, 0, 7, 0, 1, 3), 3);
        dueAddress(x, 1, 2, 2, 3);
        Check.due("burn of 3", x.burn(0, 0, 7, 0, 1, 3), 0);
    }

    private static void goneOnWith() {
        Check.sentence("BURNING, broken off when so many pulses .. were made: how many were. (gone on with till all is right)");
        for (int at = 1; at <= 12; at++) {
            ChipBurner x = with(8, 2, "volt 10;try 9{pulse 1;verify;}");
            x.need(0, 3, 1);
            x.need(0, 5, 7);
            x.fill(0x24);
            // NEED and EXTRA of each: six times 5, one of 3, one of 9.
            int made = 0;
            for (int n = 0; n < 50; n++) {
                made += x.burn(0, 0, 7, 0, 1, at);
            }
            Check.due("pulses in all, " + at + " at a time", made, 42);
            Check.due("wrong", x.wrong(0, 0, 1), 0);
            for (int a = 0; a < 8; a++) {
                dueAddress(x, a, 0x24, 0x24, a == 3 ? 3 : a == 5 ? 9 : 5);
            }
        }
    }

    private static void goneOnBeginsAnew() {
        Check.sentence("the RECIPE works (from its first STEP, at the address where it was broken off)");
        ChipBurner x = with(8, 0, "pulse 2;volt 10;pulse 1;volt 9;pulse 3;");
        image(x, 9);
        Check.due("burn of 4", x.burn(0, 0, 7, 0, 1, 4), 4);
        dueAddress(x, 0, 255, 255, 1);
        Check.due("burn of 2", x.burn(0, 0, 7, 0, 1, 2), 2);
        dueAddress(x, 0, 255, 255, 1);
        Check.due("burn of 3", x.burn(0, 0, 7, 0, 1, 3), 3);
        dueAddress(x, 0, 255, 255, 2);
        // With another RECIPE it may be gone on with too, and the COUNT goes on.
        Check.recipe(x, 1, "volt 20;pulse 1;", 2, 0, NONE);
        Check.due("burn", x.burn(0, 1, 7, 0, 1, 100), 1);
        dueAddress(x, 0, 9, 9, 3);
    }

    private static void pulsesTold() {
        Check.sentence("broken off when so many pulses (0 .. 100000) were made: how many were. NONE: others");
        ChipBurner x = with(8, 0, "volt 10;pulse 3;");
        x.fill(0);
        for (int pulses : new int[] {-1, 100001, 100002, -100000, MAX, MIN}) {
            Check.due("burn of " + pulses, x.burn(0, 0, 7, 0, 1, pulses), NONE);
            Check.due("pulses ever", x.chipOf(0, 4), 0);
            dueAddress(x, 0, 255, 255, 0);
        }
        Check.due("burn of 100000", x.burn(0, 0, 7, 0, 1, 100000), 24);
        x.erase(0);
        Check.due("burn of 99999", x.burn(0, 0, 7, 0, 1, 99999), 24);
        x.erase(0);
        for (int pulses = 23; pulses <= 25; pulses++) {
            Check.due("burn of " + pulses, x.burn(0, 0, 7, 0, 1, pulses), Math.min(pulses, 24));
            x.erase(0);
        }
    }

    private static void burnOfEachId() {
        Check.sentence("NONE: no such .. id (0 .. 255); 2 another ID than told (of a burning)");
        for (int id : new int[] {0, 1, 127, 128, 254, 255}) {
            ChipBurner x = new ChipBurner();
            x.chip(8, id, true, 10, 20, 200, 0, 0);
            Check.recipe(x, 0, "volt 10;pulse 3;", 2, 0, NONE);
            x.fill(0);
            for (int told : new int[] {-1, id - 1, id + 1, id + 256, id - 256, 256}) {
                Check.due("ID " + id + ", told " + told, x.burn(0, 0, told, 0, 1, 100), NONE);
            }
            Check.due("ID " + id, x.burn(0, 0, id, 0, 1, 100), 24);
        }
    }

    private static void burnOfOthers() {
        Check.sentence("NONE: others, or it isn't begun. (others)");
        int[] lowest = {0, 0, 7, 0, 1};
        int[] highest = {0, 3, 7, 255, 8};
        for (int which = 0; which < 5; which++) {
            int least = which == 2 ? 0 : lowest[which];
            int most = which == 2 ? 255 : highest[which];
            for (int v : new int[] {least - 1, most + 1, -256, 1000, MAX, MIN}) {
                ChipBurner x = with(8, 0, "volt 10;pulse 3;");
                x.fill(0);
                int[] r = {0, 0, 7, 0, 1};
                r[which] = v;
                Check.due("burn" + Arrays.toString(r), x.burn(r[0], r[1], r[2], r[3], r[4], 100), NONE);
                Check.due("pulses ever", x.chipOf(0, 4), 0);
            }
            for (int v : new int[] {lowest[which], highest[which]}) {
                ChipBurner x = with(8, 0, "volt 10;pulse 3;");
                x.fill(0);
                int[] r = {0, 0, 7, 0, 1};
                r[which] = v;
                int due = which == 1 && v == 3 ? 0 : which == 3 && v == 255 ? 3 : 24;
                Check.due("burn" + Arrays.toString(r), x.burn(r[0], r[1], r[2], r[3], r[4], 100), due);
            }
        }
    }

    private static void notBegun() {
        Check.sentence("NONE: others, or it isn't begun. (it isn't begun)");
        for (int why = 1; why <= 4; why++) {
            ChipBurner x = with(8, 0, why == 3 ? "volt 21;pulse 3;" : "volt 10;pulse 3;");
            Check.recipe(x, 1, "volt 10;pulse 3;", 2, 0, NONE);
            image(x, 0x0F);
            Check.due("burn", x.burn(0, 1, 7, 0, 1, 100), 3);
            x.fill(why == 4 ? 0x1F : 0x0E);
            x.contact(0, 13, why != 1);
            int id = why == 2 ? 6 : 7;
            Check.due("why", x.why(0, 0, id, 0, 1), why);
            for (int pulses : new int[] {0, 1, 100000}) {
                Check.due("burn of " + pulses + " with WHY " + why, x.burn(0, 0, id, 0, 1, pulses), NONE);
            }
            dueAddress(x, 0, 0x0F, 0x0F, 3);
            dueAddress(x, 1, 255, 255, 0);
            Check.due("pulses ever", x.chipOf(0, 4), 3);
        }
    }

    private static void wrongCounted() {
        Check.sentence("How many LOGICAL addresses are not right (LOW or HIGH isn't the byte).");
        ChipBurner x = with(16, 1, "volt 10;pulse 1;");
        Check.due("none", x.wrong(0, 0, 1), 0);
        image(x, 0);
        Check.due("one", x.wrong(0, 0, 1), 1);
        for (int n = 1; n <= 4; n++) {
            Check.due("burn", x.burn(0, 0, 7, 0, 1, 1), 1);
            // The third pulse is LOW's, the fourth HIGH's.
            Check.due("wrong behind " + n, x.wrong(0, 0, 1), n < 4 ? 1 : 0);
        }
        x.fill(255);
        Check.due("a bit too few is wrong too", x.wrong(0, 0, 1), 1);
        x.fill(0);
        Check.due("all but one", x.wrong(0, 0, 1), 15);
        x.bad(0, 1, true);
        Check.due("in good BLOCKS alone", x.wrong(0, 0, 1), 7);
        x.bad(0, 0, true);
        Check.due("no BLOCK is good", x.wrong(0, 0, 1), 0);
        // A contact that lacks does not matter here.
        x.bad(0, 0, false);
        x.contact(0, 0, false);
        Check.due("without contact", x.wrong(0, 0, 1), 7);
    }

    private static void wrongOfOthers() {
        Check.sentence("How many LOGICAL addresses are not right .. NONE for others.");
        ChipBurner x = with(8, 0, "");
        x.fill(0);
        Check.due("wrong(0, 255, 8)", x.wrong(0, 255, 8), 1);
        Check.due("wrong(0, 0, 8)", x.wrong(0, 0, 8), 8);
        Check.due("wrong(0, 255, 1)", x.wrong(0, 255, 1), 1);
        int[][] refused = {
            {-1, 0, 1}, {1, 0, 1}, {4, 0, 1}, {MAX, 0, 1}, {MIN, 0, 1}, {0, -1, 1}, {0, 256, 1}, {0, MAX, 1}, {0, MIN, 1}, {0, 0, 0},
            {0, 0, 9}, {0, 0, -1}, {0, 0, MAX}, {0, 0, MIN},
        };
        for (int[] r : refused) {
            Check.due("wrong" + Arrays.toString(r), x.wrong(r[0], r[1], r[2]), NONE);
        }
        Check.due("wrong without CHIPS", new ChipBurner().wrong(0, 0, 1), NONE);
    }

    private static void readLowAndHigh() {
        Check.sentence("What a CHIP reads (LOW; high true: HIGH) at LOGICAL addresses is put into the IMAGE from f on at every w-th byte: how many.");
        ChipBurner x = with(16, 2, "volt 10;pulse 3;");
        x.bad(0, 0, true);
        image(x, 10, 20, 30);
        Check.due("burn", x.burn(0, 0, 7, 0, 1, 8), 8);
        x.fill(77);
        Check.due("read of LOW", x.read(0, false, 100, 3), 8);
        Check.due("read of HIGH", x.read(0, true, 200, 1), 8);
        for (int i = 0; i < 256; i++) {
            int due = i >= 100 && i <= 121 && (i - 100) % 3 == 0 || i >= 200 && i < 208 ? 255 : 77;
            due = i == 100 ? 10 : i == 103 ? 20 : due;
            Check.due("image(" + i + ")", x.image(i), due);
        }
        // A contact that lacks does not matter here; nor is what is read brought by a file.
        x.contact(0, 0, false);
        Check.due("read without contact", x.read(0, false, 0, 1), 8);
        Check.due("about(2)", x.about(2), 3);
        dueAddress(x, 8, 10, 255, 3);
    }

    private static void readToTheLastByte() {
        Check.sentence("is put into the IMAGE from f on at every w-th byte: how many (as many as there are)");
        for (int f : new int[] {0, 192, 193, 248, 249, 254, 255}) {
            for (int w : new int[] {1, 2, 7, 8}) {
                ChipBurner x = with(64, 0, "");
                x.fill(1);
                int there = Math.min(64, (255 - f) / w + 1);
                Check.due("read(0, true, " + f + ", " + w + ")", x.read(0, true, f, w), there);
                for (int i = 0; i < 256; i++) {
                    boolean put = i >= f && (i - f) % w == 0 && (i - f) / w < 64;
                    Check.due("image(" + i + ")", x.image(i), put ? 255 : 1);
                }
            }
        }
    }

    private static void readOfOthers() {
        Check.sentence("What a CHIP reads .. is put into the IMAGE ..: how many. NONE for others.");
        int[][] refused = {
            {-1, 0, 1}, {1, 0, 1}, {4, 0, 1}, {MAX, 0, 1}, {MIN, 0, 1}, {0, -1, 1}, {0, 256, 1}, {0, MAX, 1}, {0, MIN, 1}, {0, 0, 0},
            {0, 0, 9}, {0, 0, -1}, {0, 0, MAX}, {0, 0, MIN},
        };
        ChipBurner x = with(8, 0, "");
        x.fill(1);
        for (int[] r : refused) {
            Check.due("read" + Arrays.toString(r), x.read(r[0], false, r[1], r[2]), NONE);
            Check.due("read" + Arrays.toString(r), x.read(r[0], true, r[1], r[2]), NONE);
        }
        for (int i = 0; i < 256; i++) {
            Check.due("image(" + i + ")", x.image(i), 1);
        }
        Check.due("read(0, false, 255, 8)", x.read(0, false, 255, 8), 1);
        Check.due("read(0, true, 0, 8)", x.read(0, true, 0, 8), 8);
    }
}
