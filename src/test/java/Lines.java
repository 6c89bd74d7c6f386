/** LINES of forms 1 and 2, each with its sum and a last byte 10, for the tests. */
final class Lines {
    static final String COLON_END = ":00000001FF\n";
    static final String S_END = "S9030000FC\n";

    private Lines() {
    }

    static String colon(int type, int address, int... data) {
        StringBuilder text = new StringBuilder();
        text.append(String.format(":%02X%04X%02X", data.length, address, type));
        int sum = data.length + (address >> 8) + (address & 255) + type;
        for (int b : data) {
            text.append(String.format("%02X", b));
            sum += b;
        }
        return text.append(String.format("%02X\n", -sum & 255)).toString();
    }

    static String s(int type, int address, int... data) {
        StringBuilder text = new StringBuilder();
        text.append(String.format("S%d%02X%04X", type, data.length + 3, address));
        int sum = data.length + 3 + (address >> 8) + (address & 255);
        for (int b : data) {
            text.append(String.format("%02X", b));
            sum += b;
        }
        return text.append(String.format("%02X\n", 255 - sum & 255)).toString();
    }

    /** A LINE of data in either form. */
    static String data(int form, int address, int... data) {
        return form == 1 ? colon(0, address, data) : s(1, address, data);
    }

    /** The LINE of the end in either form, with any address. */
    static String end(int form, int address) {
        return form == 1 ? colon(1, address) : s(9, address);
    }

    static String end(int form) {
        return form == 1 ? COLON_END : S_END;
    }

    /** So many data bytes, each another than its neighbours. */
    static int[] bytes(int count) {
        int[] bytes = new int[count];
        for (int i = 0; i < count; i++) {
            bytes[i] = i * 37 + 11 & 255;
        }
        return bytes;
    }
}
