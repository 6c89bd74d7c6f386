import java.util.Arrays;

/** A refused call, of any method, leaves all as it was; and so does a call that only asks. */
public final class RefusedTest {
    private static final int NONE = ChipBurner.NONE;
    private static final int MAX = Integer.MAX_VALUE;
    private static final int MIN = Integer.MIN_VALUE;

    public static void main(String[] args) {
        feed();
        end();
        fileOfNoForm();
        fileWithAFault();
        write();
        fill();
        chip();
        aFifthChip();
        need();
        bad();
        contact();
        erase();
        recipeOfNoNumber();
        recipeWithAFault();
        burnOfOthers();
        burnNotBegun();
        burnOfNoPulse();
        read();
        asking();
        askingOfOthers();
        Check.finish();
    }

    /** Three CHIPS in use, three RECIPES, a latest text with a FAULT, and a tape of 27 bytes: some sixty calls. */
    private static void begin(ChipBurner x) {
        StringBuilder bytes = new StringBuilder();
        for (int k = 0; k < 256; k++) {
            bytes.append((char) (k * 7 & 0xFC));
        }
        Check.load(x, bytes.toString());
        x.file(0);
        x.chip(16, 40, true, 10, 20, 100, 2, 1);
        x.chip(64, 41, false, 12, 24, 50, 0, 0);
        x.chip(8, 42, true, 1, 30, 200, 5, 0);
        Check.load(x, "volt 12;try 4{pulse 2;verify;}");
        x.recipe(0);
        Check.load(x, "volt 15;pulse 7;");
        x.recipe(1);
        Check.load(x, "ok{volt 30;}else{volt 11;}pulse 3;");
        x.recipe(3);
        x.need(0, 3, 9);
        x.burn(0, 0, 40, 0, 1, 29);
        x.erase(0);
        x.burn(0, 1, 40, 0, 1, 16);
        x.burn(1, 1, 41, 5, 3, 40);
        x.bad(1, 2, true);
        x.burn(2, 3, 42, 100, 2, 13);
        x.contact(2, 5, false);
        x.contact(2, 20, false);
        Check.load(x, "\n:x");
        x.file(1);
        Check.load(x, "what the tape has, untouched");
        x.end(27);
    }

    private static void leavesAll(String name, Twins.Call call, long due) {
        Twins.leavesAll(name, RefusedTest::begin, call, due);
    }

    private static void feed() {
        Check.sentence("NONE, and none come, if there would be more than 400.");
        for (int there : new int[] {381, 390, 399, 400}) {
            Twins.Setup full = x -> {
                begin(x);
                Check.load(x, "f".repeat(there));
            };
            Twins.leavesAll("feed behind " + there, full, x -> x.feed(1, 2, 3, 4, 5), NONE);
        }
    }

    private static void end() {
        Check.sentence("NONE, and nothing is done, if it has not so many, or n is below 0.");
        for (int n : new int[] {-1, 28, 400, MAX, MIN}) {
            leavesAll("end(" + n + ")", x -> x.end(n), NONE);
        }
        leavesAll("end(27)", x -> x.end(27), 27);
    }

    private static void fileOfNoForm() {
        Check.sentence("or (the tape stays) there is no such form.");
        for (int form : new int[] {-1, 3, MAX, MIN}) {
            leavesAll("file(" + form + ")", x -> x.file(form), NONE);
        }
    }

    private static void fileWithAFault() {
        Check.sentence("What can be read is put into the IMAGE if there is no FAULT; else nothing.");
        String data = Lines.colon(0, 0, 1, 2, 3);
        String sData = Lines.s(1, 0, 1, 2, 3);
        Object[][] files = {
            {1, data + "?\n" + Lines.COLON_END, 1}, {1, data + ":0000000001\n" + Lines.COLON_END, 2},
            {1, data + Lines.colon(0, 255, 1, 2) + Lines.COLON_END, 3}, {1, data, 4}, {2, sData + "?\n" + Lines.S_END, 1},
            {2, sData + "S1030000FD\n" + Lines.S_END, 2}, {2, sData + Lines.s(1, 256, 1) + Lines.S_END, 3}, {2, sData, 4},
            {0, "p".repeat(257), 5}, {0, "p".repeat(400), 5},
        };
        for (Object[] file : files) {
            int form = (Integer) file[0];
            Twins.Setup read = x -> {
                begin(x);
                Check.load(x, (String) file[1]);
                Check.due("file", x.file(form), NONE);
                Check.due("fault(0)", x.fault(0), (Integer) file[2]);
                Check.due("about(1)", x.about(1), 0);
            };
            Twins.same("a file of form " + form + " with FAULT " + file[2], RefusedTest::begin, read);
        }
    }

    private static void write() {
        Check.sentence("NONE, and the tape stays: another form, addresses, or it would be more than 400.");
        int[][] refused = {
            {0, 0, 1}, {3, 0, 1}, {-1, 0, 1}, {MAX, 0, 1}, {1, -1, 1}, {1, 255, 256}, {1, 2, 1}, {1, 0, 140}, {2, 0, 144}, {1, 0, 255},
            {1, MIN, MAX}, {2, MAX, MIN},
        };
        for (int[] r : refused) {
            leavesAll("write" + Arrays.toString(r), x -> x.write(r[0], r[1], r[2]), NONE);
        }
    }

    private static void fill() {
        Check.sentence("All of the IMAGE is a byte (0 .. 255): true. False for others.");
        for (int v : new int[] {-1, 256, MAX, MIN}) {
            leavesAll("fill(" + v + ")", x -> Twins.bit(x.fill(v)), 0);
        }
    }

    private static void chip() {
        Check.sentence("A CHIP: its number. NONE for others");
        int[][] refused = {
            {7, 43, 10, 20, 100, 2, 1}, {0, 43, 10, 20, 100, 2, 1}, {72, 43, 10, 20, 100, 2, 1}, {8, -1, 10, 20, 100, 2, 1},
            {8, 256, 10, 20, 100, 2, 1}, {8, 43, 0, 20, 100, 2, 1}, {8, 43, 21, 20, 100, 2, 1}, {8, 43, 10, 31, 100, 2, 1},
            {8, 43, 10, 20, 0, 2, 1}, {8, 43, 10, 20, 201, 2, 1}, {8, 43, 10, 20, 100, -1, 1}, {8, 43, 10, 20, 100, 6, 1},
            {8, 43, 10, 20, 100, 2, -1}, {8, 43, 10, 20, 100, 2, 51},
        };
        for (int[] r : refused) {
            leavesAll("chip" + Arrays.toString(r), x -> x.chip(r[0], r[1], true, r[2], r[3], r[4], r[5], r[6]), NONE);
        }
    }

    private static void aFifthChip() {
        Check.sentence("A CHIP: its number. NONE .. if there are 4.");
        Twins.Setup four = x -> {
            begin(x);
            Check.due("a fourth chip", x.chip(24, 43, true, 1, 30, 100, 0, 0), 3);
        };
        Twins.leavesAll("a fifth chip", four, x -> x.chip(8, 44, true, 1, 30, 100, 0, 0), NONE);
    }

    private static void need() {
        Check.sentence("NEED of an address (not LOGICAL): true. False for others.");
        int[][] refused = {{3, 0, 1}, {-1, 0, 1}, {4, 0, 1}, {0, 16, 1}, {0, -1, 1}, {0, 0, 0}, {0, 0, 61}, {2, 8, 1}, {MIN, MAX, MIN}};
        for (int[] r : refused) {
            leavesAll("need" + Arrays.toString(r), x -> Twins.bit(x.need(r[0], r[1], r[2])), 0);
        }
    }

    private static void bad() {
        Check.sentence("A BLOCK is BAD, or good: true. False for others.");
        int[][] refused = {{3, 0}, {-1, 0}, {4, 0}, {0, 2}, {0, -1}, {1, 8}, {2, 1}, {MAX, MIN}};
        for (int[] r : refused) {
            leavesAll("bad" + Arrays.toString(r), x -> Twins.bit(x.bad(r[0], r[1], true)), 0);
            leavesAll("good" + Arrays.toString(r), x -> Twins.bit(x.bad(r[0], r[1], false)), 0);
        }
    }

    private static void contact() {
        Check.sentence("A PIN has contact, or not: true. False for others.");
        int[][] refused = {{3, 0}, {-1, 0}, {4, 0}, {0, 28}, {0, -1}, {2, 28}, {MAX, MIN}};
        for (int[] r : refused) {
            leavesAll("contact" + Arrays.toString(r), x -> Twins.bit(x.contact(r[0], r[1], false)), 0);
            leavesAll("contact" + Arrays.toString(r), x -> Twins.bit(x.contact(r[0], r[1], true)), 0);
        }
    }

    private static void erase() {
        Check.sentence("NONE: no such CHIP, or it is Once.");
        for (int c : new int[] {1, 3, 4, -1, MAX, MIN}) {
            leavesAll("erase(" + c + ")", x -> x.erase(c), NONE);
        }
    }

    private static void recipeOfNoNumber() {
        Check.sentence("or (the tape stays) there is no such RECIPE.");
        for (int r : new int[] {-1, 4, MAX, MIN}) {
            leavesAll("recipe(" + r + ")", x -> x.recipe(r), NONE);
        }
    }

    private static void recipeWithAFault() {
        Check.sentence("NONE: it has a FAULT, the former one stays");
        String[] texts = {"?", "volt 9;pulse 1;volt 31;", "try1{".repeat(6), "volt 9;pulse 1;", " ".repeat(201)};
        for (String text : texts) {
            for (int r = 0; r < 4; r++) {
                int which = r;
                Twins.Setup read = x -> {
                    begin(x);
                    // The last byte makes a FAULT of the one text that has none.
                    Check.load(x, text + "}");
                    Check.due("recipe of " + text, x.recipe(which), NONE);
                    Check.due("about(1)", x.about(1), 0);
                };
                Twins.same("recipe(" + r + ") of " + text, RefusedTest::begin, read);
            }
        }
    }

    private static void burnOfOthers() {
        Check.sentence("NONE: others, or it isn't begun. (others)");
        int[][] refused = {
            {3, 1, 40, 0, 1, 9}, {-1, 1, 40, 0, 1, 9}, {0, 4, 40, 0, 1, 9}, {0, -1, 40, 0, 1, 9}, {0, 1, 256, 0, 1, 9}, {0, 1, -1, 0, 1, 9},
            {0, 1, 40, 256, 1, 9}, {0, 1, 40, -1, 1, 9}, {0, 1, 40, 0, 0, 9}, {0, 1, 40, 0, 9, 9}, {0, 1, 40, 0, 1, -1}, {0, 1, 40, 0, 1, 100001},
            {MAX, MIN, MAX, MIN, MAX, MIN},
        };
        for (int[] r : refused) {
            leavesAll("burn" + Arrays.toString(r), x -> x.burn(r[0], r[1], r[2], r[3], r[4], r[5]), NONE);
        }
    }

    private static void burnNotBegun() {
        Check.sentence("NONE: others, or it isn't begun. (it isn't begun)");
        // A contact of CHIP 2 lacks; CHIP 0 has another ID; RECIPE 3 has 30 volts on a WAY; CHIP 1 has bits that are gone.
        int[][] refused = {{1, 2, 1, 42, 0, 1}, {2, 0, 1, 41, 0, 1}, {3, 0, 3, 40, 0, 1}, {4, 1, 1, 41, 6, 3}};
        for (int[] r : refused) {
            leavesAll("WHY " + r[0], x -> x.why(r[1], r[2], r[3], r[4], r[5]), r[0]);
            for (int pulses : new int[] {0, 1, 100000}) {
                leavesAll("burn with WHY " + r[0], x -> x.burn(r[1], r[2], r[3], r[4], r[5], pulses), NONE);
            }
        }
    }

    private static void burnOfNoPulse() {
        Check.sentence("BURNING, broken off when so many pulses (0 .. 100000) were made: how many were. (0)");
        leavesAll("why", x -> x.why(0, 1, 40, 0, 1), 0);
        leavesAll("burn of 0", x -> x.burn(0, 1, 40, 0, 1, 0), 0);
        leavesAll("burn without STEPS", x -> x.burn(0, 2, 40, 0, 1, 100), 0);
    }

    private static void read() {
        Check.sentence("What a CHIP reads .. is put into the IMAGE ..: how many. NONE for others.");
        int[][] refused = {{3, 0, 1}, {-1, 0, 1}, {0, -1, 1}, {0, 256, 1}, {0, 0, 0}, {0, 0, 9}, {MAX, MIN, MAX}};
        for (int[] r : refused) {
            leavesAll("read" + Arrays.toString(r), x -> x.read(r[0], false, r[1], r[2]), NONE);
            leavesAll("read" + Arrays.toString(r), x -> x.read(r[0], true, r[1], r[2]), NONE);
        }
    }

    private static void asking() {
        Check.sentence("Nothing is promised beyond the answers and state changes described above (of calls that only ask)");
        leavesAll("fault(0)", x -> x.fault(0), 1);
        leavesAll("fault(1)", x -> x.fault(1), 1);
        leavesAll("tape(26)", x -> x.tape(26), 'e');
        leavesAll("image(255)", x -> x.image(255), 255 * 7 & 0xFC);
        leavesAll("chipOf(0, 0)", x -> x.chipOf(0, 0), 16);
        leavesAll("chipOf(2, 2)", x -> x.chipOf(2, 2), 5);
        leavesAll("walk(0, 3)", x -> x.walk(0, 3), 10);
        // Sixteen pulses, seven an address: two addresses are right.
        leavesAll("wrong(0, 0, 1)", x -> x.wrong(0, 0, 1), 14);
        leavesAll("about(0)", x -> x.about(0), 3);
        leavesAll("about(1)", x -> x.about(1), 27);
        leavesAll("about(2)", x -> x.about(2), 256);
    }

    private static void askingOfOthers() {
        Check.sentence("NONE for others; NONE if there is none such.");
        for (int what : new int[] {-1, 2, MAX, MIN}) {
            leavesAll("fault(" + what + ")", x -> x.fault(what), NONE);
        }
        for (int what : new int[] {-1, 27, 400, MAX, MIN}) {
            leavesAll("tape(" + what + ")", x -> x.tape(what), NONE);
        }
        for (int what : new int[] {-1, 256, MAX, MIN}) {
            leavesAll("image(" + what + ")", x -> x.image(what), NONE);
        }
        for (int what : new int[] {-1, 5, 99, 116, 600, MAX, MIN}) {
            leavesAll("chipOf(0, " + what + ")", x -> x.chipOf(0, what), NONE);
            leavesAll("chipOf(3, " + what + ")", x -> x.chipOf(3, what), NONE);
        }
        for (int what : new int[] {-1, 4, MAX, MIN}) {
            leavesAll("walk(0, " + what + ")", x -> x.walk(0, what), NONE);
            leavesAll("walk(" + what + ", 0)", x -> x.walk(what, 0), NONE);
            leavesAll("why of RECIPE " + what, x -> x.why(0, what, 40, 0, 1), NONE);
            leavesAll("wrong of CHIP " + what, x -> x.wrong(what, 0, 1), NONE);
            leavesAll("wrong from " + what, x -> x.wrong(0, what == 4 ? 256 : what, 1), NONE);
        }
        for (int what : new int[] {-1, 3, MAX, MIN}) {
            leavesAll("about(" + what + ")", x -> x.about(what), NONE);
        }
    }
}
