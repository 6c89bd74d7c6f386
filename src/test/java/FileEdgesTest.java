import java.util.Arrays;

/** The sentences of 'Terms' I and of promises 1 to 9 and 22 that name a boundary, one test for each. */
public final class FileEdgesTest {
    private static final int NONE = ChipBurner.NONE;
    private static final int MAX = Integer.MAX_VALUE;
    private static final int MIN = Integer.MIN_VALUE;

    public static void main(String[] args) {
        newObject();
        imageOf256();
        fillWithAByte();
        feedUpTo400();
        feedHighestFirst();
        endAtMostWhatThereIs();
        tapeBytes();
        fileOf400Bytes();
        plainOf256();
        lineEnds();
        returnAheadOfLineEnd();
        emptyLines();
        lastLineLacksItsEnd();
        digits();
        noDigits();
        tooShortTooLong();
        countAndData();
        otherSigns();
        colonTypes();
        sTypes();
        sCountTooSmall();
        sums();
        sumsBeyond256();
        addressHighByteFirst();
        dataUpTo255();
        unseenDataAnywhere();
        colonEnd();
        sEnd();
        behindTheEnd();
        anEndThatIsFaulty();
        noEnd();
        firstByLines();
        leastInALine();
        placeOfALine();
        nothingWithAFault();
        tapeIsEmptyThen();
        noSuchForm();
        faultOfTheLatest();
        writtenLines();
        writtenEdgesOfTheImage();
        writtenUpTo400();
        writeRefused();
        aboutBrought();
        aboutOthers();
        Check.finish();
    }

    private static void good(int form, String text, int dataBytes) {
        Check.file(new ChipBurner(), form, text, dataBytes, 0, NONE);
    }

    private static void faulty(int form, String text, int fault, int place) {
        Check.file(new ChipBurner(), form, text, NONE, fault, place);
    }

    /** A LINE that isn't one, first of all and behind another; the end's LINE stands behind it. */
    private static void notALine(int form, String line) {
        String ahead = Lines.data(form, 3, 4);
        faulty(form, line + "\n" + Lines.end(form), 1, 0);
        faulty(form, ahead + line + "\n" + Lines.end(form), 1, ahead.length());
    }

    private static void newObject() {
        Check.sentence("An IMAGE of bytes 255, no CHIPS, RECIPES without STEPS.");
        ChipBurner x = new ChipBurner();
        for (int a = 0; a < 256; a++) {
            Check.due("image(" + a + ")", x.image(a), 255);
        }
        Check.due("about(0)", x.about(0), 0);
        Check.due("about(1)", x.about(1), 0);
        Check.due("about(2)", x.about(2), 0);
        for (int c = 0; c < 4; c++) {
            Check.due("chipOf(" + c + ", 0)", x.chipOf(c, 0), NONE);
            Check.due("walk(" + c + ", 0)", x.walk(c, 0), 0);
            Check.due("walk(" + c + ", 1)", x.walk(c, 1), NONE);
            Check.due("walk(" + c + ", 2)", x.walk(c, 2), 0);
            Check.due("walk(" + c + ", 3)", x.walk(c, 3), 0);
        }
        Check.due("the first chip", x.chip(8, 1, true, 1, 1, 1, 0, 0), 0);
        Check.due("why with a new RECIPE", x.why(0, 3, 1, 0, 1), 0);
    }

    private static void imageOf256() {
        Check.sentence("A byte of the IMAGE. NONE if there is none such.");
        ChipBurner x = new ChipBurner();
        Check.file(x, 0, "a" + "b".repeat(254) + "c", 256, 0, NONE);
        Check.due("image(0)", x.image(0), 'a');
        Check.due("image(1)", x.image(1), 'b');
        Check.due("image(254)", x.image(254), 'b');
        Check.due("image(255)", x.image(255), 'c');
        for (int a : new int[] {-1, 256, 257, -256, MAX, MIN}) {
            Check.due("image(" + a + ")", x.image(a), NONE);
        }
    }

    private static void fillWithAByte() {
        Check.sentence("All of the IMAGE is a byte (0 .. 255): true. False for others.");
        for (int v : new int[] {0, 1, 127, 128, 254, 255}) {
            ChipBurner x = new ChipBurner();
            x.fill(99);
            Check.due("fill(" + v + ")", x.fill(v), true);
            for (int refused : new int[] {-1, 256, 511, -255, MAX, MIN}) {
                Check.due("fill(" + refused + ")", x.fill(refused), false);
            }
            for (int a = 0; a < 256; a++) {
                Check.due("image(" + a + ")", x.image(a), v);
            }
        }
    }

    private static void feedUpTo400() {
        Check.sentence("NONE, and none come, if there would be more than 400.");
        for (int there = 376; there <= 400; there++) {
            ChipBurner x = new ChipBurner();
            Check.load(x, "t".repeat(there));
            boolean room = there <= 380;
            Check.due("feed behind " + there, x.feed(1, 2, 3, 4, 5), room ? there + 20 : NONE);
            Check.due("about(1)", x.about(1), room ? there + 20 : there);
            Check.due("the last byte that was there", x.tape(there - 1), 't');
            Check.due("the first that came", x.tape(there), room ? 0 : NONE);
            Check.due("the last that came", x.tape(there + 19), room ? 5 : NONE);
        }
    }

    private static void feedHighestFirst() {
        Check.sentence("Twenty bytes come behind the tape, the highest of a first: how many it has.");
        ChipBurner x = new ChipBurner();
        Check.due("feed", x.feed(0x80FF007F, MAX, MIN, -1, 0x01020304), 20);
        int[] due = {128, 255, 0, 127, 127, 255, 255, 255, 128, 0, 0, 0, 255, 255, 255, 255, 1, 2, 3, 4};
        for (int i = 0; i < 20; i++) {
            Check.due("tape(" + i + ")", x.tape(i), due[i]);
        }
        Check.due("feed", x.feed(0x09000000, 0, 0, 0, 7), 40);
        Check.due("tape(19)", x.tape(19), 4);
        Check.due("tape(20)", x.tape(20), 9);
        Check.due("tape(39)", x.tape(39), 7);
        for (int n = 3; n <= 20; n++) {
            Check.due("feed", x.feed(n, n, n, n, n), 20 * n);
        }
        Check.due("a 21st feed", x.feed(21, 21, 21, 21, 21), NONE);
        Check.due("tape(399)", x.tape(399), 20);
    }

    private static void endAtMostWhatThereIs() {
        Check.sentence("The tape has its first n bytes alone: n. NONE, and nothing is done, if it has not so many, or n is below 0.");
        ChipBurner x = new ChipBurner();
        Check.due("end(0) without bytes", x.end(0), 0);
        Check.due("end(1) without bytes", x.end(1), NONE);
        Check.due("end(-1) without bytes", x.end(-1), NONE);
        Check.load(x, "0123456789");
        for (int n : new int[] {11, 12, 20, 400, 401, MAX, -1, -10, MIN}) {
            Check.due("end(" + n + ")", x.end(n), NONE);
            Check.due("about(1)", x.about(1), 10);
        }
        Check.due("the tape", Check.tapeOf(x), "0123456789");
        Check.due("end(10)", x.end(10), 10);
        Check.due("end(9)", x.end(9), 9);
        Check.due("the tape", Check.tapeOf(x), "012345678");
        Check.due("end(10) again", x.end(10), NONE);
        Check.due("end(1)", x.end(1), 1);
        Check.due("the tape", Check.tapeOf(x), "0");
        Check.due("feed behind it", x.feed(0x41424344, 0, 0, 0, 0), 21);
        Check.due("tape(0)", x.tape(0), '0');
        Check.due("tape(1)", x.tape(1), 'A');
        Check.due("end(0)", x.end(0), 0);
        Check.due("tape(0)", x.tape(0), NONE);
        Check.load(x, "f".repeat(400));
        Check.due("end(401)", x.end(401), NONE);
        Check.due("end(400)", x.end(400), 400);
    }

    private static void tapeBytes() {
        Check.sentence("Byte i of the tape. NONE if there is none such.");
        ChipBurner x = new ChipBurner();
        Check.due("tape(0) without bytes", x.tape(0), NONE);
        Check.load(x, "a" + "b".repeat(398) + "c");
        Check.due("tape(0)", x.tape(0), 'a');
        Check.due("tape(1)", x.tape(1), 'b');
        Check.due("tape(398)", x.tape(398), 'b');
        Check.due("tape(399)", x.tape(399), 'c');
        Check.due("tape(400)", x.tape(400), NONE);
        Check.due("end(5)", x.end(5), 5);
        for (int i : new int[] {5, 6, 399, 400, -1, MAX, MIN}) {
            Check.due("tape(" + i + ")", x.tape(i), NONE);
        }
        Check.due("tape(4)", x.tape(4), 'b');
    }

    private static void fileOf400Bytes() {
        Check.sentence("FILES are up to 400 bytes on the tape");
        // With its LINE and the end's, both ended, a tape of 400 bytes has room for 188 data bytes.
        String text = Lines.colon(0, 0, Lines.bytes(188)) + Lines.COLON_END;
        Check.due("its length", text.length(), 400);
        ChipBurner x = new ChipBurner();
        Check.file(x, 1, text, 188, 0, NONE);
        for (int a = 0; a < 189; a++) {
            Check.due("image(" + a + ")", x.image(a), a < 188 ? a * 37 + 11 & 255 : 255);
        }
        good(1, Lines.COLON_END + "\n".repeat(388), 0);
        good(1, "\n".repeat(389) + ":00000001FF", 0);
        faulty(1, "\n".repeat(390) + ":00000001F", 1, 390);
        faulty(1, "\n".repeat(389) + ":0000000100", 2, 389);
        faulty(1, "\n".repeat(400), 4, 400);
        faulty(1, "\n".repeat(399) + "x", 1, 399);
        good(2, "\n".repeat(390) + "S9030000FC", 0);
        good(2, Lines.s(1, 0, Lines.bytes(189)) + Lines.S_END, 189);
        faulty(2, "\n".repeat(391) + "S9030000F", 1, 391);
        faulty(2, "\r\n".repeat(200), 4, 400);
    }

    private static void plainOf256() {
        Check.sentence("form 0: plain, byte k to address k (256 at most); 5 (form 0) more than 256 bytes (at 256)");
        for (int size : new int[] {0, 1, 2, 255, 256, 257, 258, 399, 400}) {
            ChipBurner x = new ChipBurner();
            x.fill(0x33);
            StringBuilder text = new StringBuilder();
            for (int k = 0; k < size; k++) {
                text.append((char) (k * 3 + 1 & 255));
            }
            boolean taken = size <= 256;
            Check.file(x, 0, text.toString(), taken ? size : NONE, taken ? 0 : 5, taken ? NONE : 256);
            for (int a = 0; a < 256; a++) {
                Check.due("image(" + a + ") of " + size, x.image(a), taken && a < size ? a * 3 + 1 & 255 : 0x33);
            }
            Check.due("about(2) of " + size, x.about(2), taken ? size : 0);
        }
    }

    private static void lineEnds() {
        Check.sentence("LINES, each ended by a byte 10");
        for (int form = 1; form <= 2; form++) {
            String line = Lines.data(form, 5, 6).trim();
            String end = Lines.end(form);
            good(form, line + "\n" + line + "\n" + end, 2);
            for (char other : "\r\t \u000b\f;\u0000\u0085".toCharArray()) {
                faulty(form, line + other + end, 1, 0);
            }
            faulty(form, line + end, 1, 0);
            faulty(form, line + line + "\n" + end, 1, 0);
        }
    }

    private static void returnAheadOfLineEnd() {
        Check.sentence("a byte 13 ahead of it doesn't count");
        for (int form = 1; form <= 2; form++) {
            String line = Lines.data(form, 5, 6).trim();
            String end = Lines.end(form).trim();
            good(form, line + "\r\n" + end + "\r\n", 1);
            good(form, line + "\n" + end + "\r\n", 1);
            good(form, "\r\n" + line + "\r\n\r\n" + end + "\r\n", 1);
            // One such byte, and only where the byte 10 follows.
            faulty(form, line + "\r\r\n" + end, 1, 0);
            faulty(form, "\r" + line + "\n" + end, 1, 0);
            faulty(form, line + "\n\r" + end, 1, line.length() + 1);
            faulty(form, line.substring(0, 4) + "\r" + line.substring(4) + "\n" + end, 1, 0);
            faulty(form, end + "\r", 1, 0);
            faulty(form, "\r\r\n" + end, 1, 0);
            faulty(form, "\n\n\r", 1, 2);
        }
    }

    private static void emptyLines() {
        Check.sentence("empty ones aside");
        for (int form = 1; form <= 2; form++) {
            String line = Lines.data(form, 5, 6);
            String end = Lines.end(form);
            good(form, "\n" + line + "\n\n\n" + line + "\n" + end + "\n", 2);
            good(form, "\r\n\n\r\n" + end, 0);
            faulty(form, " \n" + end, 1, 0);
            faulty(form, "\n \n" + end, 1, 1);
            faulty(form, "\n\n\n", 4, 3);
        }
    }

    private static void lastLineLacksItsEnd() {
        Check.sentence("the last may lack it");
        for (int form = 1; form <= 2; form++) {
            String line = Lines.data(form, 5, 6);
            String end = Lines.end(form).trim();
            good(form, end, 0);
            good(form, line + end, 1);
            faulty(form, line.trim(), 4, line.length() - 1);
            faulty(form, line, 4, line.length());
            faulty(form, line + end.substring(0, end.length() - 1), 1, line.length());
            String tooHigh = Lines.data(form, 256, 6);
            faulty(form, line + tooHigh.trim(), 3, line.length());
        }
    }

    private static void digits() {
        Check.sentence("DIGITS are 0 .. 9, A .. F; BYTES two of them.");
        for (int form = 1; form <= 2; form++) {
            for (int b = 0; b < 256; b++) {
                ChipBurner x = new ChipBurner();
                x.fill(b ^ 255);
                Check.file(x, form, Lines.data(form, b, b) + Lines.end(form), 1, 0, NONE);
                Check.due("image(" + b + ")", x.image(b), b);
                Check.due("image beside " + b, x.image(b ^ 1), b ^ 255);
            }
        }
    }

    private static void noDigits() {
        Check.sentence("1 it isn't a LINE as told (a byte that is no DIGIT where one must be");
        char[] beside = "/:@G`abcdefg \t\r\u0000\u007f\u00b0\u00ff-+xS".toCharArray();
        for (int form = 1; form <= 2; form++) {
            String line = Lines.data(form, 5, 0x41).trim();
            for (int i = form; i < line.length(); i++) {
                for (char c : beside) {
                    // A byte 13 at the LINE's end would not count, but then the LINE is too short.
                    faulty(form, line.substring(0, i) + c + line.substring(i + 1) + "\n" + Lines.end(form), 1, 0);
                }
            }
        }
    }

    private static void tooShortTooLong() {
        Check.sentence("1 it isn't a LINE as told (.. too short, too long");
        for (int form = 1; form <= 2; form++) {
            String[] lines = {Lines.data(form, 5).trim(), Lines.data(form, 5, 6, 7).trim(), Lines.end(form).trim()};
            for (String line : lines) {
                for (int length = 1; length < line.length(); length++) {
                    notALine(form, line.substring(0, length));
                }
                for (String more : new String[] {"0", "00", "000", "0000", "F", "FF", " ", ":", "S"}) {
                    notALine(form, line + more);
                }
                good(form, line + "\n" + Lines.end(form), line.equals(lines[1]) ? 2 : 0);
            }
            // What would make it up stands on the next LINE.
            faulty(form, lines[1].substring(0, 9) + "\n" + lines[1].substring(9) + "\n" + Lines.end(form), 1, 0);
        }
    }

    private static void countAndData() {
        Check.sentence("N data bytes (form 1); N counts all behind it (form 2)");
        for (int form = 1; form <= 2; form++) {
            int of = form == 1 ? 0 : 3;
            for (int count = 0; count <= 20; count++) {
                String line = Lines.data(form, 9, Lines.bytes(count)).trim();
                for (int n = 0; n <= 30; n++) {
                    String text = withCount(form, line, n);
                    if (n == count + of) {
                        good(form, text + "\n" + Lines.end(form), count);
                    } else {
                        faulty(form, text + "\n" + Lines.end(form), 1, 0);
                    }
                }
            }
            notALine(form, withCount(form, Lines.data(form, 9, 1).trim(), 255));
        }
    }

    /** The LINE with another N, and with the sum that is due with it. */
    private static String withCount(int form, String line, int n) {
        int at = form;
        int former = Integer.parseInt(line.substring(at, at + 2), 16);
        int sum = Integer.parseInt(line.substring(line.length() - 2), 16) + former - n;
        return line.substring(0, at) + String.format("%02X", n) + line.substring(at + 2, line.length() - 2)
            + String.format("%02X", sum & 255);
    }

    private static void otherSigns() {
        Check.sentence("1 it isn't a LINE as told (.. another sign");
        for (int sign = 0; sign < 256; sign++) {
            if (sign != 10 && sign != ':') {
                faulty(1, (char) sign + "00000001FF\n" + Lines.COLON_END, 1, 0);
            }
            if (sign != 10 && sign != 'S') {
                faulty(2, (char) sign + "9030000FC\n" + Lines.S_END, 1, 0);
            }
        }
        // Neither form is read as the other one.
        faulty(1, Lines.S_END, 1, 0);
        faulty(2, Lines.COLON_END, 1, 0);
    }

    private static void colonTypes() {
        Check.sentence("1 it isn't a LINE as told (.. another sign or T), of form 1");
        for (int type = 0; type < 256; type++) {
            String line = Lines.colon(type, 0);
            if (type == 0) {
                faulty(1, line, 4, line.length());
            } else if (type == 1) {
                good(1, line, 0);
            } else {
                faulty(1, line + Lines.COLON_END, 1, 0);
                faulty(1, Lines.colon(type, 0, 7) + Lines.COLON_END, 1, 0);
            }
        }
    }

    private static void sTypes() {
        Check.sentence("Form 2: 'S' T (0, 1, 9)");
        for (int type = 0; type < 256; type++) {
            if (type == 10) {
                continue;
            }
            String line = "S" + (char) type + "030000FC\n";
            if (type == '0' || type == '1') {
                faulty(2, line, 4, line.length());
            } else if (type == '9') {
                good(2, line, 0);
            } else {
                faulty(2, line + Lines.S_END, 1, 0);
                faulty(2, "S" + (char) type + "04000007F4\n" + Lines.S_END, 1, 0);
            }
        }
    }

    private static void sCountTooSmall() {
        Check.sentence("1 it isn't a LINE as told (.. N too small), of form 2");
        for (char type : new char[] {'0', '1', '9'}) {
            String ahead = "S" + type;
            for (String line : new String[] {"00", "00FF", "01FE", "0100FE", "0200FD", "020000FD", "02000000FD", "01", "02", "0000FF"}) {
                notALine(2, ahead + line);
            }
        }
        good(2, "S1030000FC\nS0030000FC\nS9030000FC\n", 0);
    }

    private static void sums() {
        Check.sentence("N and all others together are 0 modulo 256 (form 1); with N and C together are 255 modulo 256 (form 2); 2 the sum");
        for (int form = 1; form <= 2; form++) {
            String[] lines = {Lines.data(form, 5, 0x90, 0xA0), Lines.end(form, 0x0102), form == 2 ? Lines.s(0, 1, 7) : Lines.data(1, 6)};
            for (String line : lines) {
                String shorter = line.substring(0, line.length() - 3);
                int due = Integer.parseInt(line.substring(line.length() - 3, line.length() - 1), 16);
                for (int c = 0; c < 256; c++) {
                    String text = shorter + String.format("%02X\n", c) + Lines.end(form);
                    if (c == due) {
                        good(form, text, line.equals(lines[0]) ? 2 : 0);
                    } else {
                        faulty(form, text, 2, 0);
                    }
                }
            }
        }
    }

    private static void sumsBeyond256() {
        Check.sentence("modulo 256");
        good(1, ":0000000000\n:00000001FF", 0);
        good(1, ":01000000FF00\n:00000001FF", 1);
        faulty(1, ":01000000FF01\n:00000001FF", 2, 0);
        good(2, "S1030000FC\nS9030000FC", 0);
        good(2, "S1040000FFFC\nS9030000FC", 1);
        int[] high = new int[150];
        Arrays.fill(high, 255);
        for (int count = 1; count <= 150; count += 7) {
            int[] data = Arrays.copyOf(high, count);
            good(1, Lines.colon(0, 0, data) + Lines.COLON_END, count);
            good(2, Lines.s(1, 0, data) + Lines.S_END, count);
        }
    }

    private static void addressHighByteFirst() {
        Check.sentence("A: an address, the high byte first; T 0: data, to A, A + 1, ..");
        for (int form = 1; form <= 2; form++) {
            ChipBurner x = new ChipBurner();
            Check.file(x, form, Lines.data(form, 0x00FE, 7, 8) + Lines.data(form, 0, 5, 6) + Lines.end(form), 4, 0, NONE);
            int[] addresses = {0, 1, 2, 253, 254, 255};
            int[] due = {5, 6, 255, 255, 7, 8};
            for (int i = 0; i < due.length; i++) {
                Check.due("image(" + addresses[i] + ")", x.image(addresses[i]), due[i]);
            }
            faulty(form, Lines.data(form, 0xFE00, 7) + Lines.end(form), 3, 0);
            faulty(form, Lines.data(form, 0x0100, 7) + Lines.end(form), 3, 0);
        }
    }

    private static void dataUpTo255() {
        Check.sentence("3 data at an address above 255");
        for (int form = 1; form <= 2; form++) {
            String end = Lines.end(form);
            for (int count : new int[] {1, 2, 15, 16, 17, 100, 188}) {
                int last = 256 - count;
                good(form, Lines.data(form, last, Lines.bytes(count)) + end, count);
                faulty(form, Lines.data(form, last + 1, Lines.bytes(count)) + end, 3, 0);
                faulty(form, Lines.data(form, 256, Lines.bytes(count)) + end, 3, 0);
                // An address does not begin again behind 65535.
                faulty(form, Lines.data(form, 65535, Lines.bytes(count)) + end, 3, 0);
                faulty(form, Lines.data(form, 65536 - count, Lines.bytes(count)) + end, 3, 0);
            }
            // A LINE without data has none at an address above 255.
            for (int address : new int[] {255, 256, 257, 65535}) {
                good(form, Lines.data(form, address) + end, 0);
            }
            ChipBurner x = new ChipBurner();
            Check.file(x, form, Lines.data(form, 254, 1, 2, 3) + end, NONE, 3, 0);
            Check.due("image(254)", x.image(254), 255);
            Check.due("image(0)", x.image(0), 255);
        }
    }

    private static void unseenDataAnywhere() {
        Check.sentence("0: data that aren't looked at; 3 .. (but not T 0 of form 2)");
        ChipBurner x = new ChipBurner();
        for (int address : new int[] {0, 255, 256, 65535}) {
            Check.file(x, 2, Lines.s(0, address, 1, 2, 3) + Lines.S_END, 0, 0, NONE);
        }
        for (int a = 0; a < 256; a++) {
            Check.due("image(" + a + ")", x.image(a), 255);
        }
        faulty(2, "S0060000010203F2\n" + Lines.S_END, 2, 0);
        faulty(2, "S006000001020gF3\n" + Lines.S_END, 1, 0);
    }

    private static void colonEnd() {
        Check.sentence("T 1: the end (N 0; A any)");
        for (int address : new int[] {0, 1, 255, 256, 0xFF00, 0xFFFF}) {
            good(1, Lines.colon(1, address), 0);
            faulty(1, Lines.colon(1, address, 7) + Lines.COLON_END, 1, 0);
            faulty(1, Lines.colon(1, address, 7, 8) + Lines.COLON_END, 1, 0);
        }
    }

    private static void sEnd() {
        Check.sentence("9: the end (N 3), as above");
        for (int address : new int[] {0, 1, 255, 256, 0xFF00, 0xFFFF}) {
            good(2, Lines.s(9, address), 0);
            faulty(2, Lines.s(9, address, 7) + Lines.S_END, 1, 0);
            faulty(2, Lines.s(9, address, 7, 8) + Lines.S_END, 1, 0);
        }
    }

    private static void behindTheEnd() {
        Check.sentence("the end .., behind which no LINE is looked at");
        for (int form = 1; form <= 2; form++) {
            String[] behind = {
                "x", "\r", "\n\n", ":", "S", Lines.data(form, 300, 1), Lines.data(form, 0, 1), Lines.end(form), "S9030000FF\n",
                ":00000001FE\n", "\u0000\u00ff", Lines.end(form).substring(0, 8),
            };
            for (String more : behind) {
                ChipBurner x = new ChipBurner();
                Check.file(x, form, Lines.data(form, 9, 8) + Lines.end(form) + more, 1, 0, NONE);
                Check.due("image(0)", x.image(0), 255);
                Check.due("image(9)", x.image(9), 8);
            }
        }
    }

    private static void anEndThatIsFaulty() {
        Check.sentence("FAULTS of a file, the first by LINES: of the end's LINE too");
        faulty(1, ":00000001FE\n" + Lines.COLON_END, 2, 0);
        faulty(2, "S9030000FD\n" + Lines.S_END, 2, 0);
        faulty(1, Lines.colon(0, 4, 5) + ":00000001FE", 2, 14);
        faulty(2, Lines.s(1, 4, 5) + "S9030000FD", 2, 13);
    }

    private static void noEnd() {
        Check.sentence("4 (at the length) no end was there (forms 1, 2)");
        for (int form = 1; form <= 2; form++) {
            faulty(form, "", 4, 0);
            faulty(form, "\n", 4, 1);
            faulty(form, "\r\n", 4, 2);
            String line = Lines.data(form, 1, 2);
            faulty(form, line, 4, line.length());
            faulty(form, line + "\n\n", 4, line.length() + 2);
            faulty(form, line + line.trim(), 4, 2 * line.length() - 1);
        }
        String unseen = Lines.s(0, 1, 2);
        faulty(2, unseen, 4, unseen.length());
        good(0, "", 0);
    }

    private static void firstByLines() {
        Check.sentence("FAULTS of a file, the first by LINES");
        for (int form = 1; form <= 2; form++) {
            String fault1 = "?\n";
            String fault2 = form == 1 ? ":0000000001\n" : "S1030000FF\n";
            String fault3 = Lines.data(form, 256, 1);
            String fine = Lines.data(form, 1, 1);
            String end = Lines.end(form);
            faulty(form, fault2 + fault1 + end, 2, 0);
            faulty(form, fault3 + fault1 + end, 3, 0);
            faulty(form, fault3 + fault2, 3, 0);
            faulty(form, fine + fault2 + fault1 + fault3, 2, fine.length());
            faulty(form, fine + fault1 + fault2, 1, fine.length());
            faulty(form, fault1, 1, 0);
            faulty(form, fault2, 2, 0);
            faulty(form, fault3, 3, 0);
        }
    }

    private static void leastInALine() {
        Check.sentence("in a LINE the least");
        faulty(1, ":01010002FFFF\n" + Lines.COLON_END, 1, 0);
        faulty(1, ":020100000000\n" + Lines.COLON_END, 1, 0);
        faulty(1, ":010100000000\n" + Lines.COLON_END, 2, 0);
        faulty(1, ":0101000000FE\n" + Lines.COLON_END, 3, 0);
        faulty(2, "S20401000000\n" + Lines.S_END, 1, 0);
        faulty(2, "S10501000000\n" + Lines.S_END, 1, 0);
        faulty(2, "S10401000000\n" + Lines.S_END, 2, 0);
        faulty(2, "S104010000FA\n" + Lines.S_END, 3, 0);
    }

    private static void placeOfALine() {
        Check.sentence("The place of 1, 2, 3: the LINE's first byte.");
        for (int form = 1; form <= 2; form++) {
            String fine = Lines.data(form, 1, 1);
            String[] ahead = {"", "\n", "\r\n", "\n\n\n", fine, fine.trim() + "\r\n", fine + "\r\n\n", "\n" + fine + fine + "\n"};
            for (String text : ahead) {
                faulty(form, text + ":0?\n", 1, text.length());
                faulty(form, text + fine.trim() + "?", 1, text.length());
                faulty(form, text + (form == 1 ? ":0000000002\n" : "S1030000FE\n"), 2, text.length());
                faulty(form, text + Lines.data(form, 255, 1, 2), 3, text.length());
            }
        }
    }

    private static void nothingWithAFault() {
        Check.sentence("What can be read is put into the IMAGE if there is no FAULT; else nothing.");
        for (int form = 1; form <= 2; form++) {
            String fine = Lines.data(form, 0, 1, 2, 3) + Lines.data(form, 250, 4, 5, 6);
            String[] faulty = {"?", form == 1 ? ":0000000002\n" : "S1030000FE\n", Lines.data(form, 255, 1, 2), ""};
            for (int i = 0; i < faulty.length; i++) {
                ChipBurner x = new ChipBurner();
                x.fill(0x77);
                int place = fine.length();
                Check.file(x, form, fine + faulty[i] + (i < 3 ? "\n" + Lines.end(form) : ""), NONE, i + 1, place);
                for (int a = 0; a < 256; a++) {
                    Check.due("image(" + a + ") with FAULT " + (i + 1), x.image(a), 0x77);
                }
                Check.due("about(2)", x.about(2), 0);
            }
            ChipBurner x = new ChipBurner();
            x.fill(0x77);
            Check.file(x, form, fine + Lines.end(form), 6, 0, NONE);
            int[] due = {1, 2, 3, 0x77, 0x77, 4, 5, 6, 0x77};
            int[] at = {0, 1, 2, 3, 249, 250, 251, 252, 253};
            for (int i = 0; i < at.length; i++) {
                Check.due("image(" + at[i] + ")", x.image(at[i]), due[i]);
            }
        }
    }

    private static void tapeIsEmptyThen() {
        Check.sentence("The tape (empty then) is read as a file of a form: how many data bytes. NONE: it has a FAULT");
        for (int form = 0; form <= 2; form++) {
            for (String text : new String[] {"z".repeat(300), Lines.end(form == 2 ? 2 : 1)}) {
                ChipBurner x = new ChipBurner();
                Check.load(x, text);
                x.file(form);
                Check.due("about(1) behind file(" + form + ")", x.about(1), 0);
                Check.due("tape(0)", x.tape(0), NONE);
                Check.due("end(1)", x.end(1), NONE);
                Check.due("file(" + form + ") once more", x.file(form), form == 0 ? 0 : NONE);
                Check.due("its FAULT", x.fault(0), form == 0 ? 0 : 4);
                Check.due("its place", x.fault(1), form == 0 ? NONE : 0);
            }
        }
    }

    private static void noSuchForm() {
        Check.sentence("or (the tape stays) there is no such form.");
        for (int form : new int[] {-1, 3, 4, 256, -256, MAX, MIN}) {
            ChipBurner x = new ChipBurner();
            Check.file(x, 1, "?", NONE, 1, 0);
            Check.load(x, "abc");
            Check.due("file(" + form + ")", x.file(form), NONE);
            Check.due("the tape", Check.tapeOf(x), "abc");
            Check.due("fault(0)", x.fault(0), 1);
            Check.due("fault(1)", x.fault(1), 0);
            Check.due("image(0)", x.image(0), 255);
            Check.due("about(2)", x.about(2), 0);
        }
    }

    private static void faultOfTheLatest() {
        Check.sentence("Of the latest text that was read (file, RECIPE): 0 its FAULT (0 without), 1 its place (NONE without). "
            + "NONE for others, and ahead of any.");
        ChipBurner x = new ChipBurner();
        dueFault(x, NONE, NONE);
        Check.load(x, "?");
        Check.due("file(3)", x.file(3), NONE);
        Check.due("recipe(4)", x.recipe(4), NONE);
        Check.due("recipe(-1)", x.recipe(-1), NONE);
        x.write(1, 0, 0);
        dueFault(x, NONE, NONE);
        Check.file(x, 1, "\n?", NONE, 1, 1);
        dueFault(x, 1, 1);
        x.file(3);
        x.recipe(4);
        x.write(1, 0, 0);
        x.burn(0, 0, 0, 0, 1, 1);
        dueFault(x, 1, 1);
        Check.recipe(x, 0, "verify;", 1, 0, NONE);
        dueFault(x, 0, NONE);
        Check.recipe(x, 0, " volt 31;", NONE, 2, 6);
        dueFault(x, 2, 6);
        Check.file(x, 0, "", 0, 0, NONE);
        dueFault(x, 0, NONE);
        Check.file(x, 0, "x".repeat(257), NONE, 5, 256);
        dueFault(x, 5, 256);
    }

    private static void dueFault(ChipBurner x, int fault, int place) {
        Check.due("fault(0)", x.fault(0), fault);
        Check.due("fault(1)", x.fault(1), place);
        for (int what : new int[] {-1, 2, 3, MAX, MIN}) {
            Check.due("fault(" + what + ")", x.fault(what), NONE);
        }
    }

    private static void writtenLines() {
        Check.sentence("LINES of 16 data bytes, the last one of what is left, then the end (address 0), each ended by byte 10, "
            + "in capitals: the tape has it then.");
        for (int form = 1; form <= 2; form++) {
            for (int count : new int[] {1, 2, 15, 16, 17, 31, 32, 33, 48, 127, 128, 129, 140}) {
                for (int from : new int[] {0, 1, 15, 16, 100, 116}) {
                    ChipBurner x = new ChipBurner();
                    patternImage(x);
                    Check.load(x, "this goes");
                    String due = written(form, from, count);
                    Check.due("write(" + form + ", " + from + ", " + (from + count - 1) + ")", x.write(form, from, from + count - 1),
                        due.length());
                    Check.due("what is WRITTEN", Check.tapeOf(x), due);
                }
            }
        }
    }

    private static void patternImage(ChipBurner x) {
        StringBuilder text = new StringBuilder();
        for (int k = 0; k < 256; k++) {
            text.append((char) (k * 37 + 11 & 255));
        }
        Check.file(x, 0, text.toString(), 256, 0, NONE);
    }

    private static String written(int form, int from, int count) {
        int[] all = Lines.bytes(256);
        StringBuilder text = new StringBuilder();
        int at = from;
        while (at < from + count) {
            int stop = Math.min(at + 16, from + count);
            text.append(Lines.data(form, at, Arrays.copyOfRange(all, at, stop)));
            at = stop;
        }
        return text.append(Lines.end(form)).toString();
    }

    private static void writtenEdgesOfTheImage() {
        Check.sentence("WRITTEN: addresses a .. b of the IMAGE in form 1 or 2");
        for (int form = 1; form <= 2; form++) {
            for (int a : new int[] {0, 1, 127, 128, 239, 240, 254, 255}) {
                ChipBurner x = new ChipBurner();
                patternImage(x);
                Check.due("write(" + form + ", " + a + ", " + a + ")", x.write(form, a, a), form == 1 ? 26 : 24);
                Check.due("what is WRITTEN", Check.tapeOf(x), written(form, a, 1));
            }
            ChipBurner x = new ChipBurner();
            patternImage(x);
            x.write(form, 116, 255);
            Check.due("the last 140", Check.tapeOf(x), written(form, 116, 140));
        }
        // All sums there are, 0 and 255 among them.
        for (int v = 0; v < 256; v++) {
            ChipBurner x = new ChipBurner();
            x.fill(v);
            x.write(1, 7, 7);
            Check.due("form 1 of " + v, Check.tapeOf(x), Lines.colon(0, 7, v) + ":00000001FF\n");
            x.write(2, 7, 7);
            Check.due("form 2 of " + v, Check.tapeOf(x), Lines.s(1, 7, v) + "S9030000FC\n");
        }
    }

    private static void writtenUpTo400() {
        Check.sentence("NONE, and the tape stays: .. or it would be more than 400.");
        for (int form = 1; form <= 2; form++) {
            int most = form == 1 ? 140 : 144;
            for (int count = 130; count <= 256; count++) {
                ChipBurner x = new ChipBurner();
                Check.load(x, "stays");
                int lines = (count + 15) / 16 + 1;
                int length = 2 * count + lines * (form == 1 ? 12 : 11);
                Check.due("write(" + form + ", 0, " + (count - 1) + ")", x.write(form, 0, count - 1), count <= most ? length : NONE);
                Check.due("about(1)", x.about(1), count <= most ? length : 5);
                Check.due("tape(0)", x.tape(0), count <= most ? form == 1 ? ':' : 'S' : 's');
            }
            ChipBurner x = new ChipBurner();
            Check.load(x, "stays");
            Check.due("write beyond 400", x.write(form, 255 - most, 255), NONE);
            Check.due("the tape", Check.tapeOf(x), "stays");
            Check.due("write to 400 at most", x.write(form, 256 - most, 255), form == 1 ? 400 : 398);
        }
    }

    private static void writeRefused() {
        Check.sentence("NONE, and the tape stays: another form, addresses");
        int[][] refused = {
            {0, 3, 4}, {3, 3, 4}, {-1, 3, 4}, {MAX, 3, 4}, {MIN, 3, 4}, {1, -1, 4}, {2, -1, 4}, {1, -1, -1}, {1, 255, 256},
            {2, 255, 256}, {1, 256, 256}, {1, 4, 3}, {2, 4, 3}, {1, 255, 0}, {1, MIN, 0}, {1, 0, MAX}, {1, MIN, MAX}, {1, MAX, MIN},
            {1, MAX, MAX}, {2, MIN, MIN}, {1, 0, -1}, {1, 0, MIN},
        };
        for (int[] r : refused) {
            ChipBurner x = new ChipBurner();
            Check.load(x, "stays");
            Check.due("write" + Arrays.toString(r), x.write(r[0], r[1], r[2]), NONE);
            Check.due("the tape", Check.tapeOf(x), "stays");
        }
    }

    private static void aboutBrought() {
        Check.sentence("1 bytes of the tape, 2 data bytes that files have brought (in all; 2147483647 if more)");
        // In 512 calls no more than 512 times 256 bytes can come, so the number itself can't be reached.
        ChipBurner x = new ChipBurner();
        Check.file(x, 0, "x".repeat(256), 256, 0, NONE);
        Check.due("about(2)", x.about(2), 256);
        Check.file(x, 0, "x".repeat(257), NONE, 5, 256);
        Check.due("about(2)", x.about(2), 256);
        Check.file(x, 1, Lines.colon(0, 0, 1, 2) + Lines.colon(0, 0, 3) + Lines.COLON_END, 3, 0, NONE);
        Check.due("about(2)", x.about(2), 259);
        Check.file(x, 1, Lines.colon(0, 0, 1, 2), NONE, 4, 16);
        Check.file(x, 2, Lines.s(1, 0, 1, 2) + Lines.S_END, 2, 0, NONE);
        Check.file(x, 0, "", 0, 0, NONE);
        Check.due("about(2)", x.about(2), 261);
        Check.recipe(x, 0, "verify;", 1, 0, NONE);
        x.chip(8, 1, true, 1, 1, 1, 0, 0);
        x.read(0, false, 0, 1);
        x.write(1, 0, 9);
        Check.due("about(2)", x.about(2), 261);
        Check.due("about(1)", x.about(1), 44);
        for (int n = 0; n < 60; n++) {
            Check.due("feed", x.feed(n, n, n, n, n), 44 + 20);
            Check.due("file(0)", x.file(0), 64);
            x.write(1, 0, 9);
        }
        Check.due("about(2)", x.about(2), 261 + 60 * 64);
    }

    private static void aboutOthers() {
        Check.sentence("0 CHIPS, 1 bytes of the tape, 2 data bytes .. NONE for others.");
        ChipBurner x = new ChipBurner();
        for (int what : new int[] {-1, 3, 4, 100, MAX, MIN}) {
            Check.due("about(" + what + ")", x.about(what), NONE);
        }
        for (int n = 1; n <= 5; n++) {
            x.chip(8, 1, true, 1, 1, 1, 0, 0);
            Check.due("about(0)", x.about(0), Math.min(n, 4));
        }
        Check.load(x, "y".repeat(400));
        Check.due("about(1)", x.about(1), 400);
        x.end(399);
        Check.due("about(1)", x.about(1), 399);
    }
}
