/** Promises 1 to 9 and 22: the tape, files of all forms, the IMAGE. */
public final class FilesTest {
    private static final int NONE = ChipBurner.NONE;

    public static void main(String[] args) {
        newObject();
        feedAndEnd();
        plainFiles();
        colonLines();
        colonFaults();
        sLines();
        sFaults();
        lineEnds();
        firstFaultCounts();
        nothingIsPutWithFault();
        noSuchForm();
        writing();
        writtenIsRead();
        images();
        about();
        Check.finish();
    }

    private static void newObject() {
        ChipBurner x = new ChipBurner();
        Check.due("NONE", ChipBurner.NONE, -1);
        for (int a = 0; a < 256; a++) {
            Check.due("new image(" + a + ")", x.image(a), 255);
        }
        Check.due("new about(0)", x.about(0), 0);
        Check.due("new about(1)", x.about(1), 0);
        Check.due("new about(2)", x.about(2), 0);
        Check.due("new tape(0)", x.tape(0), NONE);
        Check.due("new fault(0)", x.fault(0), NONE);
        Check.due("new fault(1)", x.fault(1), NONE);
        Check.due("new chipOf(0, 0)", x.chipOf(0, 0), NONE);
        for (int r = 0; r < 4; r++) {
            Check.due("new walk(" + r + ", 0)", x.walk(r, 0), 0);
            Check.due("new walk(" + r + ", 1)", x.walk(r, 1), NONE);
            Check.due("new walk(" + r + ", 2)", x.walk(r, 2), 0);
            Check.due("new walk(" + r + ", 3)", x.walk(r, 3), 0);
        }
    }

    private static void feedAndEnd() {
        ChipBurner x = new ChipBurner();
        Check.due("feed", x.feed(0x01020304, 0x85868788, -1, 0x7F800001, 0xFEDCBA98), 20);
        int[] bytes = {1, 2, 3, 4, 0x85, 0x86, 0x87, 0x88, 255, 255, 255, 255, 127, 128, 0, 1, 254, 0xDC, 0xBA, 0x98};
        for (int i = 0; i < 20; i++) {
            Check.due("tape(" + i + ")", x.tape(i), bytes[i]);
        }
        Check.due("tape(20)", x.tape(20), NONE);
        Check.due("tape(-1)", x.tape(-1), NONE);
        Check.due("tape(MAX)", x.tape(Integer.MAX_VALUE), NONE);
        Check.due("tape(MIN)", x.tape(Integer.MIN_VALUE), NONE);
        Check.due("end(21)", x.end(21), NONE);
        Check.due("end(-1)", x.end(-1), NONE);
        Check.due("end(MAX)", x.end(Integer.MAX_VALUE), NONE);
        Check.due("about(1)", x.about(1), 20);
        Check.due("end(20)", x.end(20), 20);
        Check.due("end(3)", x.end(3), 3);
        Check.due("tape(2)", x.tape(2), 3);
        Check.due("tape(3)", x.tape(3), NONE);
        Check.due("feed", x.feed(0x09000000, 0, 0, 0, 0), 23);
        Check.due("tape(3)", x.tape(3), 9);
        Check.due("end(0)", x.end(0), 0);
        for (int n = 1; n <= 20; n++) {
            Check.due("feed " + n, x.feed(n, n, n, n, n), 20 * n);
        }
        Check.due("feed beyond 400", x.feed(7, 7, 7, 7, 7), NONE);
        Check.due("tape(399)", x.tape(399), 20);
        Check.due("end(381)", x.end(381), 381);
        Check.due("feed beyond 400", x.feed(7, 7, 7, 7, 7), NONE);
        Check.due("about(1)", x.about(1), 381);
        Check.due("tape(381)", x.tape(381), NONE);
        Check.due("end(380)", x.end(380), 380);
        Check.due("feed to 400", x.feed(7, 7, 7, 7, 8), 400);
        Check.due("tape(399)", x.tape(399), 8);
    }

    private static void plainFiles() {
        ChipBurner x = new ChipBurner();
        Check.file(x, 0, "", 0, 0, NONE);
        Check.file(x, 0, "\n\r:\u0000\u00ff", 5, 0, NONE);
        int[] bytes = {10, 13, 58, 0, 255, 255};
        for (int a = 0; a < bytes.length; a++) {
            Check.due("image(" + a + ")", x.image(a), bytes[a]);
        }
        Check.file(x, 0, "x".repeat(257), NONE, 5, 256);
        Check.due("image(0)", x.image(0), 10);
        Check.file(x, 0, "x".repeat(400), NONE, 5, 256);
        Check.file(x, 0, "y".repeat(255) + "z", 256, 0, NONE);
        Check.due("image(0)", x.image(0), 'y');
        Check.due("image(255)", x.image(255), 'z');
        Check.due("about(2)", x.about(2), 261);
    }

    private static void colonLines() {
        ChipBurner x = new ChipBurner();
        Check.file(x, 1, ":03001000010203E7\n:00000001FF\n", 3, 0, NONE);
        Check.due("image(15)", x.image(15), 255);
        Check.due("image(16)", x.image(16), 1);
        Check.due("image(17)", x.image(17), 2);
        Check.due("image(18)", x.image(18), 3);
        Check.due("image(19)", x.image(19), 255);
        // The end may have any address; a LINE of data none of its own, wherever.
        Check.file(x, 1, ":00123401B9", 0, 0, NONE);
        Check.file(x, 1, ":00FFFF0002\n:00000001FF", 0, 0, NONE);
        Check.file(x, 1, colon(0, 255, 0x5A) + ":00000001FF", 1, 0, NONE);
        Check.due("image(255)", x.image(255), 0x5A);
        Check.file(x, 1, colon(0, 254, 0xAB, 0xCD) + ":00000001FF", 2, 0, NONE);
        Check.due("image(254)", x.image(254), 0xAB);
        Check.due("image(255)", x.image(255), 0xCD);
        // Of bytes for the same address the later one stays, and both are counted.
        Check.file(x, 1, colon(0, 7, 1, 2) + colon(0, 8, 9) + ":00000001FF", 3, 0, NONE);
        Check.due("image(7)", x.image(7), 1);
        Check.due("image(8)", x.image(8), 9);
        int[] many = new int[180];
        for (int i = 0; i < many.length; i++) {
            many[i] = i * 7 & 255;
        }
        Check.file(x, 1, colon(0, 20, many) + ":00000001FF", 180, 0, NONE);
        Check.due("image(20)", x.image(20), 0);
        Check.due("image(199)", x.image(199), 179 * 7 & 255);
        Check.due("image(200)", x.image(200), 255);
    }

    private static void colonFaults() {
        ChipBurner x = new ChipBurner();
        String end = ":00000001FF\n";
        Check.file(x, 1, "", NONE, 4, 0);
        Check.file(x, 1, "\n\n\r\n", NONE, 4, 4);
        Check.file(x, 1, colon(0, 0, 1), NONE, 4, 14);
        String[] noLines = {
            "x", ":", ":0", ":00", ";00000001FF", "S00000001FF", " :00000001FF", ":00000001FF ", ":00000001ff",
            ":0000000G1F", ":00000001F", ":0000000FF", ":00000001FF0", ":00000001FF00", ":01000000FF", ":0100000000FF00",
            ":00000002FE", ":00000003FD", ":000000FF01", ":0100000100FE", ":000000010/", ":000000010:", ":000000010@",
            ":000000010G", ":0000000 FF", "\r:00000001FF", ":00000001FF\r\r", ":FF0000000001", ":0000000\u000101",
        };
        for (String line : noLines) {
            x = new ChipBurner();
            Check.file(x, 1, line + "\n" + end, NONE, 1, 0);
            Check.file(x, 1, colon(0, 0, 1) + "\n" + line + "\n" + end, NONE, 1, 15);
        }
        // Too short a LINE, and DIGITS behind it that would make it up.
        Check.file(x, 1, ":\nB000000000000", NONE, 1, 0);
        Check.file(x, 1, "\n".repeat(12) + ":\nB000000000000", NONE, 1, 12);
        x = new ChipBurner();
        Check.file(x, 1, ":0000000100\n", NONE, 2, 0);
        Check.file(x, 1, ":00000001FE\n", NONE, 2, 0);
        Check.file(x, 1, "\n:0100000001FF\n" + end, NONE, 2, 1);
        Check.file(x, 1, colon(0, 256, 1) + end, NONE, 3, 0);
        Check.file(x, 1, colon(0, 255, 1, 2) + end, NONE, 3, 0);
        Check.file(x, 1, colon(0, 65535, 1, 2) + end, NONE, 3, 0);
        Check.file(x, 1, end + colon(0, 255, 1, 2), 0, 0, NONE);
        // In a LINE the least: a wrong T ahead of the sum, the sum ahead of the address.
        Check.file(x, 1, ":0100000200FF\n", NONE, 1, 0);
        Check.file(x, 1, ":0101000001FF\n", NONE, 2, 0);
    }

    private static void sLines() {
        ChipBurner x = new ChipBurner();
        Check.file(x, 2, "S0030000FC\nS1060010010203E3\nS9030000FC\n", 3, 0, NONE);
        Check.due("image(16)", x.image(16), 1);
        Check.due("image(18)", x.image(18), 3);
        Check.due("image(19)", x.image(19), 255);
        // What T 0 has is not looked at, wherever it would lie.
        Check.file(x, 2, s(0, 0, 0x48, 0x49) + s(0, 0xFFFF, 1, 2, 3) + s(1, 3, 4) + s(9, 0), 1, 0, NONE);
        Check.due("image(0)", x.image(0), 255);
        Check.due("image(3)", x.image(3), 4);
        Check.file(x, 2, s(1, 0x1234) + s(9, 0xABCD), 0, 0, NONE);
        Check.file(x, 2, s(1, 255, 6) + s(9, 0), 1, 0, NONE);
        Check.due("image(255)", x.image(255), 6);
        Check.due("about(2)", x.about(2), 5);
    }

    private static void sFaults() {
        ChipBurner x = new ChipBurner();
        Check.file(x, 2, "", NONE, 4, 0);
        Check.file(x, 2, s(0, 0) + s(1, 0, 5), NONE, 4, 24);
        String[] noLines = {
            "S", "S9", "S90", "S903", "T9030000FC", "s9030000FC", ":00000001FF", "S2030000FC", "S8030000FC", "S:030000FC",
            "SA030000FC", "S9030000fc", "S9030000F", "S9030000FC0", "S9030000FC00", "S90200FD", "S9020000FD", "S100FF",
            "S101FE", "S1020000", "S904000000FB", "S90400000BF0", "S1040000FB", "S103000000FC", "S1030000F\r",
            "S1FF0000FC", "S 030000FC",
        };
        for (String line : noLines) {
            x = new ChipBurner();
            Check.file(x, 2, line + "\n" + s(9, 0), NONE, 1, 0);
            Check.file(x, 2, s(0, 0, 1) + "\r\n" + line + "\n" + s(9, 0), NONE, 1, 15);
        }
        Check.file(x, 2, "S9030000FD\n", NONE, 2, 0);
        Check.file(x, 2, "S9030000FB\n", NONE, 2, 0);
        Check.file(x, 2, "S0030000FD\n" + s(9, 0), NONE, 2, 0);
        Check.file(x, 2, s(1, 256, 1) + s(9, 0), NONE, 3, 0);
        Check.file(x, 2, s(1, 0) + s(1, 254, 1, 2, 3) + s(9, 0), NONE, 3, 11);
        Check.file(x, 2, "S104010001FF\n" + s(9, 0), NONE, 2, 0);
    }

    private static void lineEnds() {
        ChipBurner x = new ChipBurner();
        String end = ":00000001FF";
        Check.file(x, 1, end, 0, 0, NONE);
        Check.file(x, 1, end + "\r\n", 0, 0, NONE);
        Check.file(x, 1, "\r\n\n" + colon(0, 0, 1).replace("\n", "\r\n") + "\r\n" + end, 1, 0, NONE);
        Check.file(x, 1, end + "\r", NONE, 1, 0);
        Check.file(x, 1, "\r\r\n" + end, NONE, 1, 0);
        Check.file(x, 1, "\r", NONE, 1, 0);
        Check.file(x, 1, "\n\r" + end, NONE, 1, 1);
        Check.file(x, 1, end + "\nwhatever\n:", 0, 0, NONE);
        Check.file(x, 2, "S9030000FC\r\n\u00ff", 0, 0, NONE);
    }

    private static void firstFaultCounts() {
        ChipBurner x = new ChipBurner();
        String end = ":00000001FF\n";
        String sum = ":0000000000\n:01000000FF\n";
        Check.file(x, 1, ":0000000001\nxyz\n" + end, NONE, 2, 0);
        Check.file(x, 1, "\n" + colon(0, 300, 1) + "x\n" + sum, NONE, 3, 1);
        Check.file(x, 1, colon(0, 0, 1) + "x\n" + colon(0, 300, 1), NONE, 1, 14);
        Check.due("fault(2)", x.fault(2), NONE);
        Check.due("fault(-1)", x.fault(-1), NONE);
        Check.recipe(x, 0, "verify;", 1, 0, NONE);
        Check.recipe(x, 0, "  ?", NONE, 1, 2);
        Check.file(x, 0, "", 0, 0, NONE);
    }

    private static void nothingIsPutWithFault() {
        ChipBurner x = new ChipBurner();
        Check.file(x, 1, colon(0, 0, 1, 2, 3), NONE, 4, 18);
        Check.file(x, 1, colon(0, 0, 1, 2, 3) + "x", NONE, 1, 18);
        Check.file(x, 2, s(1, 0, 1, 2, 3) + s(1, 255, 1, 2) + s(9, 0), NONE, 3, 17);
        for (int a = 0; a < 256; a++) {
            Check.due("image(" + a + ") behind FAULTS", x.image(a), 255);
        }
        Check.due("about(2) behind FAULTS", x.about(2), 0);
    }

    private static void noSuchForm() {
        ChipBurner x = new ChipBurner();
        Check.load(x, "abc");
        int[] forms = {-1, 3, 4, Integer.MAX_VALUE, Integer.MIN_VALUE};
        for (int form : forms) {
            Check.due("file(" + form + ")", x.file(form), NONE);
            Check.due("about(1)", x.about(1), 3);
            Check.due("fault(0)", x.fault(0), NONE);
        }
        Check.due("image(0)", x.image(0), 255);
    }

    private static void writing() {
        ChipBurner x = new ChipBurner();
        Check.file(x, 0, "0123456789abcdefghijklmnopqrstuvwxyz", 36, 0, NONE);
        Check.due("write(1, 4, 4)", x.write(1, 4, 4), 26);
        Check.due("write(1, 4, 4)", Check.tapeOf(x), ":0100040034C7\n:00000001FF\n");
        Check.due("write(2, 254, 255)", x.write(2, 254, 255), 26);
        Check.due("write(2, 254, 255)", Check.tapeOf(x), "S10500FEFFFFFE\nS9030000FC\n");
        Check.due("write(1, 1, 17)", x.write(1, 1, 17), 70);
        Check.due("write(1, 1, 17)", Check.tapeOf(x),
            colon(0, 1, "123456789abcdefg".chars().toArray()) + colon(0, 17, 'h') + ":00000001FF\n");
        Check.due("write(2, 0, 15)", x.write(2, 0, 15), 54);
        Check.due("write(2, 0, 15)", Check.tapeOf(x), s(1, 0, "0123456789abcdef".chars().toArray()) + "S9030000FC\n");
        Check.due("fault(0) behind write", x.fault(0), 0);

        x = new ChipBurner();
        Check.load(x, "stays");
        int[][] refused = {
            {0, 0, 1}, {3, 0, 1}, {-1, 0, 1}, {1, -1, 1}, {1, 0, 256}, {1, 255, 256}, {1, 2, 1}, {2, 256, 256},
            {1, 0, Integer.MAX_VALUE}, {1, Integer.MIN_VALUE, 0}, {1, 0, 140}, {1, 0, 255}, {2, 0, 144}, {2, 5, 149},
            {1, 0, Integer.MIN_VALUE}, {2, Integer.MIN_VALUE, Integer.MAX_VALUE},
        };
        for (int[] r : refused) {
            Check.due("write(" + r[0] + ", " + r[1] + ", " + r[2] + ")", x.write(r[0], r[1], r[2]), NONE);
            Check.due("tape behind it", Check.tapeOf(x), "stays");
        }
        Check.due("write(1, 0, 139)", x.write(1, 0, 139), 400);
        Check.due("write(1, 116, 255)", x.write(1, 116, 255), 400);
        Check.due("write(2, 0, 143)", x.write(2, 0, 143), 398);
        Check.due("feed behind it", x.feed(0, 0, 0, 0, 0), NONE);
    }

    private static void writtenIsRead() {
        for (int form = 1; form <= 2; form++) {
            for (int count = 1; count <= 140; count += 9) {
                ChipBurner x = new ChipBurner();
                StringBuilder text = new StringBuilder();
                for (int i = 0; i < 256; i++) {
                    text.append((char) (i * 37 + form & 255));
                }
                Check.file(x, 0, text.toString(), 256, 0, NONE);
                int a = 256 - count;
                x.write(form, a, 255);
                x.fill(7);
                Check.due("file(" + form + ") of what was written", x.file(form), count);
                for (int i = 0; i < 256; i++) {
                    Check.due("image(" + i + ")", x.image(i), i < a ? 7 : text.charAt(i));
                }
            }
        }
    }

    private static void images() {
        ChipBurner x = new ChipBurner();
        int[] none = {-1, 256, Integer.MAX_VALUE, Integer.MIN_VALUE};
        for (int a : none) {
            Check.due("image(" + a + ")", x.image(a), NONE);
            Check.due("fill(" + a + ")", x.fill(a), false);
        }
        Check.due("image(0)", x.image(0), 255);
        int[] bytes = {0, 1, 254, 255};
        for (int v : bytes) {
            x = new ChipBurner();
            Check.due("fill(" + v + ")", x.fill(v), true);
            for (int a = 0; a < 256; a++) {
                Check.due("image(" + a + ")", x.image(a), v);
            }
        }
    }

    private static void about() {
        ChipBurner x = new ChipBurner();
        x.chip(8, 0, true, 1, 1, 1, 0, 0);
        x.chip(8, 0, true, 1, 1, 0, 0, 0);
        x.chip(8, 0, true, 1, 1, 1, 0, 0);
        Check.due("about(0)", x.about(0), 2);
        Check.file(x, 0, "abcd", 4, 0, NONE);
        Check.file(x, 1, colon(0, 0, 1, 2) + ":00000001FF", 2, 0, NONE);
        Check.file(x, 1, colon(0, 0, 1, 2) + ":00000001FE", NONE, 2, 16);
        Check.file(x, 0, "", 0, 0, NONE);
        Check.due("about(2)", x.about(2), 6);
        Check.load(x, "abcde");
        Check.due("about(1)", x.about(1), 5);
        int[] none = {-1, 3, 100, Integer.MAX_VALUE, Integer.MIN_VALUE};
        for (int what : none) {
            Check.due("about(" + what + ")", x.about(what), NONE);
        }
    }

    private static String colon(int type, int address, int... data) {
        return Lines.colon(type, address, data);
    }

    private static String s(int type, int address, int... data) {
        return Lines.s(type, address, data);
    }
}
