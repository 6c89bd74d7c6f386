import java.util.Arrays;

/** The sentences of 'Terms' II and of promises 10 to 15 that name a boundary, one test for each. */
public final class ChipEdgesTest {
    private static final int NONE = ChipBurner.NONE;
    private static final int MAX = Integer.MAX_VALUE;
    private static final int MIN = Integer.MIN_VALUE;

    /** A CHIP's numbers in the order of chip, without its kind: SIZE, ID, LEAST, MOST, BEARS, EXTRA, LIFE. */
    private static final String[] NAMES = {"SIZE", "ID", "LEAST", "MOST", "BEARS", "EXTRA", "LIFE"};
    private static final int[] LOWEST = {8, 0, 1, 1, 1, 0, 0};
    private static final int[] HIGHEST = {64, 255, 30, 30, 200, 5, 50};

    public static void main(String[] args) {
        chipsUpTo4();
        eachNumber();
        sizes();
        leastAndMostNotFalling();
        atFirst();
        voltsAtLeast();
        needJustMet();
        extraJustMet();
        firstByteOfAll();
        anotherByte();
        losesOnlyBitsThatTheByteHasNot();
        needChangedOnTheWay();
        needs();
        needIsNotOfLogical();
        lifeJustMet();
        eraseAll();
        eraseOfOnce();
        eraseOfNone();
        blocks();
        logicalAddresses();
        allBlocksBad();
        pins();
        firstPinWithoutContact();
        whatOfAChip();
        pulsesEver();
        chipsApart();
        Check.finish();
    }

    private static int chip(ChipBurner x, int[] n, boolean erasable) {
        return x.chip(n[0], n[1], erasable, n[2], n[3], n[4], n[5], n[6]);
    }

    /** An object with CHIP 0 of ID 7, which takes pulses from 10 volts on, and a RECIPE 0 of one pulse at 10. */
    private static ChipBurner with(int size, int extra, int life) {
        ChipBurner x = new ChipBurner();
        Check.due("chip", x.chip(size, 7, true, 10, 20, 200, extra, life), 0);
        Check.recipe(x, 0, "volt 10;pulse 1;", 2, 0, NONE);
        return x;
    }

    /** So many pulses of a byte at address 0, one by one; the other addresses are right already. */
    private static void pulses(ChipBurner x, int d, int count) {
        Check.file(x, 0, String.valueOf((char) d), 1, 0, NONE);
        for (int n = 0; n < count; n++) {
            Check.due("a pulse of " + d, x.burn(0, 0, 7, 0, 1, 1), 1);
        }
    }

    private static void dueAddress(ChipBurner x, int a, int low, int high, int count) {
        Check.due("LOW of " + a, x.chipOf(0, 100 + a), low);
        Check.due("HIGH of " + a, x.chipOf(0, 200 + a), high);
        Check.due("COUNT of " + a, x.chipOf(0, 400 + a), count);
    }

    private static void chipsUpTo4() {
        Check.sentence("A CHIP: its number. NONE for others, or if there are 4.");
        ChipBurner x = new ChipBurner();
        for (int c = 0; c < 4; c++) {
            Check.due("chipOf(" + c + ", 0) ahead of it", x.chipOf(c, 0), NONE);
            Check.due("chip " + c, x.chip(8 + 8 * c, c, true, 1, 30, 10, 0, 0), c);
            Check.due("chipOf(" + c + ", 0)", x.chipOf(c, 0), 8 + 8 * c);
        }
        for (int n = 0; n < 3; n++) {
            Check.due("a fifth chip", x.chip(64, 9, false, 1, 30, 10, 0, 0), NONE);
            Check.due("about(0)", x.about(0), 4);
        }
        for (int c = 0; c < 4; c++) {
            Check.due("chipOf(" + c + ", 0)", x.chipOf(c, 0), 8 + 8 * c);
            Check.due("its ID", x.why(c, 0, c, 0, 1), 0);
        }
        for (int c : new int[] {-1, 4, 5, MAX, MIN}) {
            Check.due("chipOf(" + c + ", 0)", x.chipOf(c, 0), NONE);
        }
    }

    private static void eachNumber() {
        Check.sentence("a SIZE (8, 16, .. 64 bytes), an ID (0 .. 255) .. LEAST volts and MOST volts (1 .. 30, not falling), BEARS so many "
            + "pulses (1 .. 200) .., EXTRA (0 .. 5), LIFE (0 .. 50)");
        for (int which = 0; which < 7; which++) {
            int step = which == 0 ? 8 : 1;
            int[] taken = {LOWEST[which], LOWEST[which] + step, HIGHEST[which] - step, HIGHEST[which]};
            for (int v : taken) {
                Check.due(NAMES[which] + " " + v, chip(new ChipBurner(), with(which, v), true), 0);
                Check.due(NAMES[which] + " " + v, chip(new ChipBurner(), with(which, v), false), 0);
            }
            int[] refused = {LOWEST[which] - step, LOWEST[which] - 1, HIGHEST[which] + 1, HIGHEST[which] + step, -8, -256, 256, MAX, MIN};
            for (int v : refused) {
                ChipBurner x = new ChipBurner();
                Check.due(NAMES[which] + " " + v, chip(x, with(which, v), true), NONE);
                Check.due("about(0)", x.about(0), 0);
                Check.due("chipOf(0, 0)", x.chipOf(0, 0), NONE);
                Check.due("the next chip", x.chip(8, 1, true, 1, 1, 1, 0, 0), 0);
            }
        }
    }

    /** Numbers that are taken whatever LEAST or MOST may be, but for one. */
    private static int[] with(int which, int v) {
        int[] numbers = {16, 7, 1, 30, 100, 2, 3};
        numbers[which] = v;
        return numbers;
    }

    private static void sizes() {
        Check.sentence("a SIZE (8, 16, .. 64 bytes)");
        for (int size = -16; size <= 136; size++) {
            boolean taken = size >= 8 && size <= 64 && size % 8 == 0;
            ChipBurner x = new ChipBurner();
            Check.due("SIZE " + size, x.chip(size, 7, true, 1, 30, 100, 2, 3), taken ? 0 : NONE);
            Check.due("chipOf(0, 0)", x.chipOf(0, 0), taken ? size : NONE);
            Check.due("chipOf(0, 1)", x.chipOf(0, 1), taken ? size : NONE);
        }
    }

    private static void leastAndMostNotFalling() {
        Check.sentence("LEAST volts and MOST volts (1 .. 30, not falling)");
        for (int least = 0; least <= 31; least++) {
            for (int most = 0; most <= 31; most++) {
                boolean taken = least >= 1 && most <= 30 && least <= most;
                Check.due("LEAST " + least + ", MOST " + most, new ChipBurner().chip(8, 0, true, least, most, 1, 0, 0), taken ? 0 : NONE);
            }
        }
    }

    private static void atFirst() {
        Check.sentence("LOW and HIGH, both 255 at first; NEED (1 .. 60; at first 3), COUNT and DATA of the latest pulses (0, none)");
        for (int size = 8; size <= 64; size += 8) {
            ChipBurner x = with(size, 5, 50);
            for (int a = 0; a < size; a++) {
                dueAddress(x, a, 255, 255, 0);
                Check.due("NEED of " + a, x.chipOf(0, 300 + a), 3);
            }
            Check.due("the first PIN without contact", x.chipOf(0, 2), NONE);
            Check.due("ERASED", x.chipOf(0, 3), 0);
            Check.due("pulses", x.chipOf(0, 4), 0);
        }
    }

    private static void voltsAtLeast() {
        Check.sentence("A PULSE of a byte d at an address at V volts: if V is not below LEAST");
        for (int least : new int[] {1, 2, 15, 29, 30}) {
            for (int volts = Math.max(0, least - 2); volts <= 30; volts++) {
                ChipBurner x = new ChipBurner();
                x.chip(8, 7, true, least, 30, 200, 0, 0);
                x.need(0, 0, 1);
                Check.recipe(x, 0, "volt " + volts + ";pulse 1;", 2, 0, NONE);
                Check.file(x, 0, "\u005a", 1, 0, NONE);
                Check.due("burn", x.burn(0, 0, 7, 0, 1, 9), 1);
                boolean takes = volts >= least;
                dueAddress(x, 0, takes ? 0x5A : 255, takes ? 0x5A : 255, takes ? 1 : 0);
            }
        }
        // A pulse that is not taken does not stand between those that are.
        ChipBurner x = with(8, 0, 0);
        Check.recipe(x, 0, "volt 10;pulse 2;volt 9;pulse 5;volt 10;pulse 1;", 6, 0, NONE);
        Check.file(x, 0, "\u005a", 1, 0, NONE);
        Check.due("burn", x.burn(0, 0, 7, 0, 1, 7), 7);
        dueAddress(x, 0, 255, 255, 2);
        Check.due("erase", x.erase(0), 1);
        Check.due("need", x.need(0, 0, 3), true);
        Check.due("burn", x.burn(0, 0, 7, 0, 1, 8), 8);
        dueAddress(x, 0, 0x5A, 0x5A, 3);
    }

    private static void needJustMet() {
        Check.sentence("with COUNT at least NEED, LOW loses the bits that d has not");
        for (int need : new int[] {1, 2, 3, 4, 59, 60}) {
            ChipBurner x = with(8, 0, 0);
            Check.due("need", x.need(0, 0, need), true);
            pulses(x, 0x21, need - 1);
            dueAddress(x, 0, 255, 255, need - 1);
            Check.due("wrong", x.wrong(0, 0, 1), 1);
            pulses(x, 0x21, 1);
            dueAddress(x, 0, 0x21, 0x21, need);
            Check.due("wrong", x.wrong(0, 0, 1), 0);
        }
    }

    private static void extraJustMet() {
        Check.sentence("at least NEED and EXTRA, HIGH likewise");
        for (int extra = 0; extra <= 5; extra++) {
            for (int need : new int[] {1, 3, 60}) {
                ChipBurner x = with(8, extra, 0);
                Check.due("need", x.need(0, 0, need), true);
                pulses(x, 0x84, need - 1);
                dueAddress(x, 0, 255, 255, need - 1);
                for (int beyond = 0; beyond < extra; beyond++) {
                    pulses(x, 0x84, 1);
                    dueAddress(x, 0, 0x84, 255, need + beyond);
                }
                pulses(x, 0x84, 1);
                dueAddress(x, 0, 0x84, 0x84, need + extra);
            }
        }
    }

    private static void firstByteOfAll() {
        Check.sentence("if d is DATA, COUNT is one more, else DATA is d, COUNT 1 (DATA at first: none)");
        for (int d : new int[] {0, 1, 127, 128, 254}) {
            ChipBurner x = with(8, 0, 0);
            x.need(0, 0, 2);
            pulses(x, d, 1);
            dueAddress(x, 0, 255, 255, 1);
            pulses(x, d, 1);
            dueAddress(x, 0, d, d, 2);
        }
    }

    private static void anotherByte() {
        Check.sentence("if d is DATA, COUNT is one more, else DATA is d, COUNT 1");
        ChipBurner x = with(8, 0, 0);
        pulses(x, 0xF0, 2);
        dueAddress(x, 0, 255, 255, 2);
        pulses(x, 0x30, 1);
        dueAddress(x, 0, 255, 255, 1);
        // The former byte's pulses are forgotten.
        pulses(x, 0xF0, 1);
        dueAddress(x, 0, 255, 255, 1);
        pulses(x, 0xF0, 2);
        dueAddress(x, 0, 0xF0, 0xF0, 3);
        // NEED is not met by the pulses of another byte.
        pulses(x, 0x70, 2);
        dueAddress(x, 0, 0xF0, 0xF0, 2);
        pulses(x, 0x70, 1);
        dueAddress(x, 0, 0x70, 0x70, 3);
    }

    private static void losesOnlyBitsThatTheByteHasNot() {
        Check.sentence("LOW loses the bits that d has not; .. HIGH likewise");
        int[] falling = {0xFE, 0xBE, 0xBC, 0x3C, 0x2C, 0x28, 0x08, 0x00};
        ChipBurner x = with(8, 1, 0);
        for (int i = 0; i < falling.length; i++) {
            int former = i == 0 ? 255 : falling[i - 1];
            pulses(x, falling[i], 2);
            dueAddress(x, 0, former, former, 2);
            pulses(x, falling[i], 1);
            dueAddress(x, 0, falling[i], former, 3);
            pulses(x, falling[i], 1);
            dueAddress(x, 0, falling[i], falling[i], 4);
        }
        Check.due("another address", x.chipOf(0, 101), 255);
    }

    private static void needChangedOnTheWay() {
        Check.sentence("NEED of an address (not LOGICAL): true (it works at the next PULSE)");
        ChipBurner x = with(8, 0, 0);
        pulses(x, 0x11, 2);
        Check.due("need", x.need(0, 0, 1), true);
        dueAddress(x, 0, 255, 255, 2);
        pulses(x, 0x11, 1);
        dueAddress(x, 0, 0x11, 0x11, 3);
        Check.due("need", x.need(0, 0, 60), true);
        dueAddress(x, 0, 0x11, 0x11, 3);
        Check.due("wrong", x.wrong(0, 0, 1), 0);
    }

    private static void needs() {
        Check.sentence("NEED (1 .. 60); NEED of an address (not LOGICAL): true. False for others.");
        for (int size : new int[] {8, 24, 64}) {
            ChipBurner x = with(size, 0, 0);
            int[][] taken = {{0, 1}, {0, 60}, {0, 2}, {0, 59}, {size - 1, 1}, {size - 1, 60}, {size - 1, 33}};
            for (int[] t : taken) {
                Check.due("need(0, " + t[0] + ", " + t[1] + ")", x.need(0, t[0], t[1]), true);
                Check.due("NEED", x.chipOf(0, 300 + t[0]), t[1]);
            }
            int[][] refused = {
                {0, 0, 0}, {0, 0, 61}, {0, 0, -1}, {0, 0, MAX}, {0, 0, MIN}, {0, size, 5}, {0, -1, 5}, {0, size + 8, 5}, {0, MAX, 5},
                {0, MIN, 5}, {1, 0, 5}, {-1, 0, 5}, {4, 0, 5}, {MAX, 0, 5}, {MIN, 0, 5},
            };
            for (int[] r : refused) {
                Check.due("need" + Arrays.toString(r), x.need(r[0], r[1], r[2]), false);
            }
            for (int a = 0; a < size; a++) {
                Check.due("NEED of " + a, x.chipOf(0, 300 + a), a == 0 ? 59 : a == size - 1 ? 33 : 3);
            }
        }
    }

    private static void needIsNotOfLogical() {
        Check.sentence("NEED of an address (not LOGICAL)");
        ChipBurner x = with(16, 0, 0);
        Check.due("bad", x.bad(0, 0, true), true);
        Check.due("need in a BAD BLOCK", x.need(0, 0, 9), true);
        Check.due("need behind LOGICAL ones", x.need(0, 15, 8), true);
        Check.due("need", x.need(0, 16, 7), false);
        Check.due("NEED of 0", x.chipOf(0, 300), 9);
        Check.due("NEED of 8", x.chipOf(0, 308), 3);
        Check.due("NEED of 15", x.chipOf(0, 315), 8);
    }

    private static void lifeJustMet() {
        Check.sentence("each time beyond LIFE each NEED is one more");
        for (int life : new int[] {0, 1, 2, 49, 50}) {
            ChipBurner x = with(16, 0, life);
            x.need(0, 0, 1);
            x.need(0, 15, 60);
            x.bad(0, 1, true);
            for (int n = 1; n <= life; n++) {
                Check.due("erase", x.erase(0), n);
            }
            dueNeeds(x, 0);
            for (int beyond = 1; beyond <= 4; beyond++) {
                Check.due("erase", x.erase(0), life + beyond);
                dueNeeds(x, beyond);
            }
            // What is told by word is taken then, and grows from there.
            Check.due("need", x.need(0, 3, 5), true);
            Check.due("erase", x.erase(0), life + 5);
            Check.due("NEED of 3", x.chipOf(0, 303), 6);
        }
    }

    private static void dueNeeds(ChipBurner x, int more) {
        Check.due("NEED of 0", x.chipOf(0, 300), 1 + more);
        Check.due("NEED of 3", x.chipOf(0, 303), 3 + more);
        Check.due("NEED of 8, in a BAD BLOCK", x.chipOf(0, 308), 3 + more);
        Check.due("NEED of 15", x.chipOf(0, 315), 60 + more);
    }

    private static void eraseAll() {
        Check.sentence("ERASED (Erasable): all LOW, HIGH 255, COUNT 0, no DATA; ERASED: how often it was.");
        ChipBurner x = with(64, 1, 9);
        Check.recipe(x, 1, "volt 10;pulse 4;", 2, 0, NONE);
        x.fill(0x42);
        Check.due("burn", x.burn(0, 1, 7, 0, 1, 100000), 256);
        x.bad(0, 7, true);
        x.contact(0, 3, false);
        Check.due("erase", x.erase(0), 1);
        for (int a = 0; a < 64; a++) {
            dueAddress(x, a, 255, 255, 0);
        }
        Check.due("the BLOCK is BAD still", x.chipOf(0, 1), 56);
        Check.due("the PIN lacks still", x.chipOf(0, 2), 3);
        Check.due("pulses ever", x.chipOf(0, 4), 256);
        x.contact(0, 3, true);
        x.bad(0, 7, false);
        for (int n = 1; n <= 3; n++) {
            Check.due("a pulse of the same byte", x.burn(0, 0, 7, 0, 8, 1), 1);
            dueAddress(x, 0, n < 3 ? 255 : 0x42, 255, n);
        }
        Check.due("erase", x.erase(0), 2);
        Check.due("chipOf(0, 3)", x.chipOf(0, 3), 2);
        Check.due("erase of what is ERASED", x.erase(0), 3);
        dueAddress(x, 0, 255, 255, 0);
    }

    private static void eraseOfOnce() {
        Check.sentence("NONE: no such CHIP, or it is Once. (Once)");
        ChipBurner x = new ChipBurner();
        Check.due("chip", x.chip(8, 7, false, 10, 20, 200, 0, 0), 0);
        Check.recipe(x, 0, "volt 10;pulse 4;", 2, 0, NONE);
        x.fill(0x42);
        Check.due("burn", x.burn(0, 0, 7, 0, 1, 30), 30);
        Check.due("erase", x.erase(0), NONE);
        Check.due("chipOf(0, 3)", x.chipOf(0, 3), 0);
        dueAddress(x, 0, 0x42, 0x42, 4);
        dueAddress(x, 7, 255, 255, 2);
        Check.due("NEED of 0", x.chipOf(0, 300), 3);
        // The byte is DATA still.
        Check.due("burn", x.burn(0, 0, 7, 0, 1, 1), 1);
        dueAddress(x, 7, 0x42, 0x42, 3);
    }

    private static void eraseOfNone() {
        Check.sentence("NONE: no such CHIP, or it is Once. (no such CHIP)");
        ChipBurner x = new ChipBurner();
        Check.due("erase(0) without CHIPS", x.erase(0), NONE);
        for (int c = 0; c < 4; c++) {
            x.chip(8, 7, true, 10, 20, 200, 0, 0);
            Check.due("erase(" + c + ")", x.erase(c), 1);
            Check.due("erase(" + (c + 1) + ")", x.erase(c + 1), NONE);
        }
        for (int c : new int[] {-1, 4, 5, MAX, MIN}) {
            Check.due("erase(" + c + ")", x.erase(c), NONE);
        }
        for (int c = 0; c < 4; c++) {
            Check.due("chipOf(" + c + ", 3)", x.chipOf(c, 3), 1);
        }
    }

    private static void blocks() {
        Check.sentence("BLOCKS of 8 bytes, each good, or BAD by word; A BLOCK is BAD, or good: true. False for others.");
        for (int size = 8; size <= 64; size += 8) {
            ChipBurner x = with(size, 0, 0);
            int last = size / 8 - 1;
            for (int block : new int[] {-1, last + 1, last + 2, 8, size, MAX, MIN}) {
                if (block < 0 || block > last) {
                    Check.due("bad(0, " + block + ", true)", x.bad(0, block, true), false);
                    Check.due("bad(0, " + block + ", false)", x.bad(0, block, false), false);
                }
            }
            for (int c : new int[] {-1, 1, 4, MAX, MIN}) {
                Check.due("bad(" + c + ", 0, true)", x.bad(c, 0, true), false);
            }
            Check.due("LOGICAL addresses", x.chipOf(0, 1), size);
            Check.due("the last BLOCK", x.bad(0, last, true), true);
            Check.due("LOGICAL addresses", x.chipOf(0, 1), size - 8);
            Check.due("the last BLOCK again", x.bad(0, last, true), true);
            Check.due("LOGICAL addresses", x.chipOf(0, 1), size - 8);
            Check.due("good again", x.bad(0, last, false), true);
            Check.due("good as it is", x.bad(0, 0, false), true);
            Check.due("LOGICAL addresses", x.chipOf(0, 1), size);
            Check.due("SIZE", x.chipOf(0, 0), size);
        }
    }

    private static void logicalAddresses() {
        Check.sentence("LOGICAL address a lies in the good BLOCK number a / 8 (by rising BLOCKS), at a modulo 8.");
        for (int bad = 0; bad < 256; bad += 5) {
            ChipBurner x = with(64, 0, 0);
            int[] due = new int[64];
            int count = 0;
            for (int block = 0; block < 8; block++) {
                boolean isBad = (bad >> block & 1) == 1;
                Check.due("bad", x.bad(0, block, isBad), true);
                for (int i = 0; i < 8 && !isBad; i++) {
                    due[count] = 8 * block + i;
                    count++;
                }
            }
            Check.due("LOGICAL addresses", x.chipOf(0, 1), count);
            for (int k = 0; k < 100; k++) {
                Check.due("chipOf(0, 500 + " + k + ") with " + bad, x.chipOf(0, 500 + k), k < count ? due[k] : NONE);
            }
        }
    }

    private static void allBlocksBad() {
        Check.sentence("LOGICAL address a lies in the good BLOCK number a / 8 (no BLOCK is good)");
        for (int size : new int[] {8, 64}) {
            ChipBurner x = with(size, 0, 0);
            x.fill(0);
            for (int block = 0; block < size / 8; block++) {
                x.bad(0, block, true);
            }
            Check.due("chipOf(0, 1)", x.chipOf(0, 1), 0);
            Check.due("chipOf(0, 500)", x.chipOf(0, 500), NONE);
            Check.due("LOW of 0", x.chipOf(0, 100), 255);
            Check.due("why", x.why(0, 0, 7, 0, 1), 0);
            Check.due("wrong", x.wrong(0, 0, 1), 0);
            Check.due("burn", x.burn(0, 0, 7, 0, 1, 100), 0);
            Check.due("read", x.read(0, false, 0, 1), 0);
            Check.due("image(0)", x.image(0), 0);
            Check.due("erase", x.erase(0), 1);
        }
    }

    private static void pins() {
        Check.sentence("PINS 0 .. 27, each with contact (at first) or not; A PIN has contact, or not: true. False for others.");
        ChipBurner x = with(8, 0, 0);
        for (int pin : new int[] {-1, 28, 29, 32, MAX, MIN}) {
            Check.due("contact(0, " + pin + ", false)", x.contact(0, pin, false), false);
            Check.due("contact(0, " + pin + ", true)", x.contact(0, pin, true), false);
            Check.due("chipOf(0, 2)", x.chipOf(0, 2), NONE);
        }
        for (int c : new int[] {-1, 1, 4, MAX, MIN}) {
            Check.due("contact(" + c + ", 0, false)", x.contact(c, 0, false), false);
        }
        for (int pin = 0; pin < 28; pin++) {
            Check.due("chipOf(0, 2)", x.chipOf(0, 2), NONE);
            Check.due("why", x.why(0, 0, 7, 0, 1), 0);
            Check.due("contact(0, " + pin + ", false)", x.contact(0, pin, false), true);
            Check.due("chipOf(0, 2)", x.chipOf(0, 2), pin);
            Check.due("why", x.why(0, 0, 7, 0, 1), 1);
            Check.due("contact(0, " + pin + ", true)", x.contact(0, pin, true), true);
        }
    }

    private static void firstPinWithoutContact() {
        Check.sentence("2 the first PIN without contact (NONE)");
        ChipBurner x = with(8, 0, 0);
        for (int pin = 27; pin >= 0; pin--) {
            x.contact(0, pin, false);
            Check.due("chipOf(0, 2)", x.chipOf(0, 2), pin);
        }
        for (int pin = 0; pin < 28; pin++) {
            x.contact(0, pin, true);
            Check.due("chipOf(0, 2)", x.chipOf(0, 2), pin < 27 ? pin + 1 : NONE);
        }
        x.contact(0, 9, false);
        x.contact(0, 9, false);
        x.contact(0, 20, true);
        Check.due("chipOf(0, 2)", x.chipOf(0, 2), 9);
        x.contact(0, 9, true);
        Check.due("chipOf(0, 2)", x.chipOf(0, 2), NONE);
    }

    private static void whatOfAChip() {
        Check.sentence("100 + a: LOW of an address (not LOGICAL), 200 + a: HIGH, 300 + a: NEED, 400 + a: COUNT, "
            + "500 + k: the address of a LOGICAL one. NONE for others.");
        for (int size : new int[] {8, 40, 64}) {
            ChipBurner x = with(size, 0, 0);
            ChipBurner y = with(size, 0, 0);
            int[] plain = {size, size, NONE, 0, 0};
            int[] rows = {255, 255, 3, 0};
            for (int what = -50; what <= 750; what++) {
                int row = Math.floorDiv(what, 100);
                int a = Math.floorMod(what, 100);
                int due = NONE;
                if (row == 0 && a < 5) {
                    due = plain[a];
                } else if (row >= 1 && row <= 5 && a < size) {
                    due = row == 5 ? a : rows[row - 1];
                }
                Check.due("chipOf(0, " + what + ") of " + size, (what < 300 ? x : y).chipOf(0, what), due);
            }
            for (int what : new int[] {MAX, MIN, MIN + 100, -100, -500, 65536, 1 << 30}) {
                Check.due("chipOf(0, " + what + ")", x.chipOf(0, what), NONE);
            }
            for (int c : new int[] {-1, 1, 3, 4, MAX, MIN}) {
                Check.due("chipOf(" + c + ", 0)", x.chipOf(c, 0), NONE);
                Check.due("chipOf(" + c + ", 100)", x.chipOf(c, 100), NONE);
            }
        }
    }

    private static void pulsesEver() {
        Check.sentence("4 pulses ever made");
        ChipBurner x = with(8, 0, 0);
        pulses(x, 0x10, 2);
        Check.due("chipOf(0, 4)", x.chipOf(0, 4), 2);
        x.erase(0);
        pulses(x, 0x10, 1);
        Check.due("chipOf(0, 4)", x.chipOf(0, 4), 3);
        Check.due("burn", x.burn(0, 0, 8, 0, 1, 9), NONE);
        Check.due("burn", x.burn(0, 0, 7, 0, 1, 0), 0);
        Check.due("chipOf(0, 4)", x.chipOf(0, 4), 3);
        // Some thousand by one burning: 64 addresses of 200 pulses each.
        x = with(64, 0, 0);
        Check.recipe(x, 0, "volt 10;try 4{pulse 50;}", 3, 0, NONE);
        x.fill(0);
        Check.due("burn", x.burn(0, 0, 7, 0, 1, 100000), 12800);
        Check.due("chipOf(0, 4)", x.chipOf(0, 4), 12800);
        dueAddress(x, 63, 0, 0, 200);
    }

    private static void chipsApart() {
        Check.sentence("CHIPS 0 .. 3 (each has its own)");
        ChipBurner x = with(8, 0, 0);
        for (int c = 1; c < 4; c++) {
            Check.due("chip", x.chip(8, 7, true, 10, 20, 200, 0, 0), c);
        }
        x.need(1, 2, 9);
        x.bad(2, 0, true);
        x.contact(3, 4, false);
        x.fill(0);
        Check.due("burn", x.burn(0, 0, 7, 0, 1, 5), 5);
        x.erase(1);
        int[][] due = {{8, NONE, 0, 5, 3, 1}, {8, NONE, 1, 0, 10, 0}, {0, NONE, 0, 0, 3, 0}, {8, 4, 0, 0, 3, 0}};
        int[] whats = {1, 2, 3, 4, 302, 402};
        for (int c = 0; c < 4; c++) {
            for (int i = 0; i < whats.length; i++) {
                Check.due("chipOf(" + c + ", " + whats[i] + ")", x.chipOf(c, whats[i]), due[c][i]);
            }
        }
    }
}
