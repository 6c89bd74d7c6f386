import java.util.Arrays;

/**
 * A burner of memory chips. Words in capitals are those of the document, whose promises each
 * public method names by number.
 */
public final class ChipBurner {
    public static final int NONE = -1;

    private static final int IMAGE_SIZE = 256;
    private static final int BYTE_MOST = 255;
    private static final int TAPE_MOST = 400;
    private static final int FEED_SIZE = 20;

    private static final int FORM_PLAIN = 0;
    private static final int FORM_COLON = 1;
    private static final int FORM_S = 2;
    private static final int LINE_END = 10;
    private static final int RETURN = 13;
    private static final int BLANK = 32;
    private static final int LINE_DATA = 16;
    private static final int BROUGHT_MOST = 2147483647;

    private static final int CHIPS_MOST = 4;
    private static final int BLOCK_SIZE = 8;
    private static final int SIZE_MOST = 64;
    private static final int VOLTS_MOST = 30;
    private static final int BEARS_MOST = 200;
    private static final int EXTRA_MOST = 5;
    private static final int LIFE_MOST = 50;
    private static final int NEED_AT_FIRST = 3;
    private static final int NEED_MOST = 60;
    private static final int PINS = 28;

    private static final int RECIPES = 4;
    private static final int RECIPE_MOST = 200;
    private static final int STEPS_MOST = 40;
    private static final int OPEN_MOST = 5;
    private static final int TIMES_MOST = 50;
    private static final int WORKED_MOST = 5000;
    private static final int COUNTED_MOST = 1000000;
    private static final int EVERY_MOST = 8;
    private static final int PULSES_MOST = 100000;

    private static final int VOLT = 0;
    private static final int PULSE = 1;
    private static final int VERIFY = 2;
    private static final int TRY = 3;
    private static final int OK = 4;

    private final Tape reel = new Tape();
    private final int[] picture = new int[IMAGE_SIZE];
    private final Finding latest = new Finding();
    private final FormReader formReader = new FormReader(reel, latest);
    private final FormWriter formWriter = new FormWriter(reel);
    private final RecipeReader recipeReader = new RecipeReader(reel, latest);
    private final Chip[] chips = new Chip[CHIPS_MOST];
    private int chipCount;
    private final Recipe[] recipes = new Recipe[RECIPES];
    private Recipe spare = new Recipe();
    private int brought;

    /** Promise 1. */
    public ChipBurner() {
        Arrays.fill(picture, BYTE_MOST);
        for (int r = 0; r < RECIPES; r++) {
            recipes[r] = new Recipe();
        }
    }

    /** Promise 2. */
    public int feed(int a, int b, int c, int d, int e) {
        if (reel.size() + FEED_SIZE > TAPE_MOST) {
            return NONE;
        }
        reel.addFour(a);
        reel.addFour(b);
        reel.addFour(c);
        reel.addFour(d);
        reel.addFour(e);
        return reel.size();
    }

    /** Promise 3. */
    public int end(int n) {
        return reel.cutTo(n) ? n : NONE;
    }

    /** Promise 4. */
    public int file(int form) {
        if (!isWithin(form, FORM_PLAIN, FORM_S)) {
            return NONE;
        }
        int dataBytes = formReader.readInto(picture, form);
        reel.cutTo(0);
        if (dataBytes != NONE) {
            brought = (int) Math.min(BROUGHT_MOST, (long) brought + dataBytes);
        }
        return dataBytes;
    }

    /** Promise 5. */
    public int fault(int what) {
        if (what == 0) {
            return latest.kind;
        }
        return what == 1 ? latest.place : NONE;
    }

    /** Promise 6. */
    public int write(int form, int a, int b) {
        if (!isWithin(form, FORM_COLON, FORM_S) || !isWithin(a, 0, b) || !isWithin(b, a, BYTE_MOST)) {
            return NONE;
        }
        if (formWriter.lengthOf(form, b - a + 1) > TAPE_MOST) {
            return NONE;
        }
        formWriter.writeOut(picture, form, a, b);
        return reel.size();
    }

    /** Promise 7. */
    public int tape(int i) {
        return reel.at(i);
    }

    /** Promise 8. */
    public int image(int address) {
        return isWithin(address, 0, IMAGE_SIZE - 1) ? picture[address] : NONE;
    }

    /** Promise 9. */
    public boolean fill(int v) {
        if (!isWithin(v, 0, BYTE_MOST)) {
            return false;
        }
        Arrays.fill(picture, v);
        return true;
    }

    /** Promise 10. Eight parameters, since the document's face has them. */
    public int chip(int size, int id, boolean erasable, int least, int most, int bears, int extra, int life) {
        boolean told = isSize(size) && isWithin(id, 0, BYTE_MOST)
            && isWithin(least, 1, VOLTS_MOST) && isWithin(most, least, VOLTS_MOST)
            && isWithin(bears, 1, BEARS_MOST) && isWithin(extra, 0, EXTRA_MOST)
            && isWithin(life, 0, LIFE_MOST);
        if (!told || chipCount >= CHIPS_MOST) {
            return NONE;
        }
        Chip made = new Chip(size, id, erasable);
        made.setLimits(least, most, bears);
        made.setWear(extra, life);
        chips[chipCount] = made;
        chipCount++;
        return chipCount - 1;
    }

    /** Promise 11. */
    public boolean need(int chip, int address, int v) {
        Chip c = chipAt(chip);
        return c != null && isWithin(v, 1, NEED_MOST) && c.setNeed(address, v);
    }

    /** Promise 12. */
    public boolean bad(int chip, int block, boolean it) {
        Chip c = chipAt(chip);
        return c != null && c.setBad(block, it);
    }

    /** Promise 13. */
    public boolean contact(int chip, int pin, boolean it) {
        Chip c = chipAt(chip);
        return c != null && c.setContact(pin, it);
    }

    /** Promise 14. */
    public int erase(int chip) {
        Chip c = chipAt(chip);
        if (c == null || !c.erasable) {
            return NONE;
        }
        c.wipe();
        return c.erasures;
    }

    /** Promise 15. */
    public int chipOf(int chip, int what) {
        Chip c = chipAt(chip);
        if (c == null || what < 0) {
            return NONE;
        }
        return what < 100 ? c.property(what) : c.cell(what / 100, what % 100);
    }

    /** Promise 16. */
    public int recipe(int r) {
        if (!isWithin(r, 0, RECIPES - 1)) {
            return NONE;
        }
        boolean good = recipeReader.readInto(spare);
        reel.cutTo(0);
        if (!good) {
            return NONE;
        }
        // The former one's rows are used again for the next text, so that no call makes new ones.
        Recipe former = recipes[r];
        recipes[r] = spare;
        spare = former;
        return recipes[r].count;
    }

    /** Promise 17. */
    public int walk(int r, int what) {
        Recipe recipe = recipeAt(r);
        if (recipe == null) {
            return NONE;
        }
        switch (what) {
            case 0:
                return recipe.count;
            case 1:
                return recipe.peakVolts;
            case 2:
                return recipe.mostPulses;
            case 3:
                return recipe.mostWorked;
            default:
                return NONE;
        }
    }

    /** Promise 18. */
    public int why(int chip, int r, int id, int f, int w) {
        Chip c = chipAt(chip);
        Recipe recipe = recipeAt(r);
        if (c == null || recipe == null || !isWithin(id, 0, BYTE_MOST) || !isPart(f, w)) {
            return NONE;
        }
        return hindrance(c, recipe, id, f, w);
    }

    /** Promise 19. */
    public int burn(int chip, int r, int id, int f, int w, int pulses) {
        Chip c = chipAt(chip);
        Recipe recipe = recipeAt(r);
        if (c == null || recipe == null || !isWithin(id, 0, BYTE_MOST) || !isPart(f, w)) {
            return NONE;
        }
        if (!isWithin(pulses, 0, PULSES_MOST) || hindrance(c, recipe, id, f, w) != 0) {
            return NONE;
        }
        Worker worker = new Worker(c, recipe, pulses);
        int reach = reachOf(c, f, w);
        for (int k = 0; k < reach && worker.left > 0; k++) {
            int address = c.addressOf(k);
            int aim = image(f + w * k);
            if (!c.isRight(address, aim)) {
                worker.workAt(address, aim);
            }
        }
        return pulses - worker.left;
    }

    /** Promise 20. */
    public int wrong(int chip, int f, int w) {
        Chip c = chipAt(chip);
        if (c == null || !isPart(f, w)) {
            return NONE;
        }
        int count = 0;
        int reach = reachOf(c, f, w);
        for (int k = 0; k < reach; k++) {
            if (!c.isRight(c.addressOf(k), image(f + w * k))) {
                count++;
            }
        }
        return count;
    }

    /** Promise 21. */
    public int read(int chip, boolean high, int f, int w) {
        Chip c = chipAt(chip);
        if (c == null || !isPart(f, w)) {
            return NONE;
        }
        int reach = reachOf(c, f, w);
        for (int k = 0; k < reach; k++) {
            int to = f + w * k;
            if (isWithin(to, 0, IMAGE_SIZE - 1)) {
                picture[to] = c.cell(high ? Chip.HIGH : Chip.LOW, c.addressOf(k));
            }
        }
        return reach;
    }

    /** Promise 22. */
    public int about(int what) {
        switch (what) {
            case 0:
                return chipCount;
            case 1:
                return reel.size();
            case 2:
                return brought;
            default:
                return NONE;
        }
    }

    private static boolean isWithin(int v, int low, int high) {
        return v >= low && v <= high;
    }

    private static boolean isSize(int size) {
        return isWithin(size, BLOCK_SIZE, SIZE_MOST) && size % BLOCK_SIZE == 0;
    }

    private static boolean isPart(int f, int w) {
        return isWithin(f, 0, BYTE_MOST) && isWithin(w, 1, EVERY_MOST);
    }

    private Chip chipAt(int n) {
        return n >= 0 && n < chipCount && n < CHIPS_MOST ? chips[n] : null;
    }

    private Recipe recipeAt(int r) {
        return isWithin(r, 0, RECIPES - 1) ? recipes[r] : null;
    }

    /** How many LOGICAL addresses have a byte of the IMAGE, when every w-th from f on is meant. */
    private static int reachOf(Chip c, int f, int w) {
        if (!isPart(f, w)) {
            return 0;
        }
        return Math.min(c.logicalCount(), (BYTE_MOST - f) / w + 1);
    }

    /** WHY a BURNING isn't begun. */
    private int hindrance(Chip c, Recipe recipe, int id, int f, int w) {
        if (c.firstLackingPin() != NONE) {
            return 1;
        }
        if (c.id != id) {
            return 2;
        }
        if (!recipe.fits(c)) {
            return 3;
        }
        int reach = reachOf(c, f, w);
        for (int k = 0; k < reach; k++) {
            if (c.mustGoBack(c.addressOf(k), image(f + w * k))) {
                return 4;
            }
        }
        return 0;
    }

    /** The bytes that were fed or WRITTEN and that no file or RECIPE has taken yet. */
    private static final class Tape {
        private final int[] bytes = new int[TAPE_MOST];
        private int length;

        int size() {
            return length;
        }

        int at(int i) {
            return i >= 0 && i < length && i < TAPE_MOST ? bytes[i] : NONE;
        }

        boolean cutTo(int n) {
            if (n < 0 || n > length) {
                return false;
            }
            length = n;
            return true;
        }

        void add(int b) {
            if (length >= 0 && length < TAPE_MOST) {
                bytes[length] = b & BYTE_MOST;
                length++;
            }
        }

        void addFour(int four) {
            add(four >>> 24);
            add(four >>> 16);
            add(four >>> 8);
            add(four);
        }

        void addDigit(int digit) {
            add(digit < 10 ? '0' + digit : 'A' + digit - 10);
        }

        /** The value of the DIGIT at i, or NONE. */
        int digitAt(int i) {
            int b = at(i);
            if (b >= '0' && b <= '9') {
                return b - '0';
            }
            return b >= 'A' && b <= 'F' ? b - 'A' + 10 : NONE;
        }

        /** The value of two DIGITS; to be asked only where both are known to be such. */
        int pairAt(int i) {
            return digitAt(i) * 16 + digitAt(i + 1);
        }
    }

    /** What the latest reading of a text found. */
    private static final class Finding {
        private int kind = NONE;
        private int place = NONE;

        void start() {
            kind = 0;
            place = NONE;
        }

        void mark(int fault, int at) {
            kind = fault;
            place = at;
        }

        boolean isFault() {
            return kind > 0;
        }
    }

    /** Reads files of all forms; the IMAGE gets nothing before the whole file is known to be good. */
    private static final class FormReader {
        private static final int NOT_A_LINE = 1;
        private static final int WRONG_SUM = 2;
        private static final int TOO_HIGH = 3;
        private static final int NO_END = 4;
        private static final int TOO_MANY = 5;

        private static final int DATA = 0;
        private static final int UNSEEN = 1;
        private static final int END = 2;

        private final Tape source;
        private final Finding finding;
        private final int[] staged = new int[IMAGE_SIZE];
        private int dataBytes;
        private boolean ended;

        private int lineType;
        private int lineAddress;
        private int lineData;
        private int lineCount;

        FormReader(Tape source, Finding finding) {
            this.source = source;
            this.finding = finding;
        }

        /** How many data bytes came into the image, or NONE with a FAULT. */
        int readInto(int[] image, int form) {
            int shared = Math.min(image.length, IMAGE_SIZE);
            System.arraycopy(image, 0, staged, 0, shared);
            finding.start();
            dataBytes = 0;
            if (form == FORM_PLAIN) {
                takePlain();
            } else {
                takeLines(form);
            }
            if (finding.isFault()) {
                return NONE;
            }
            System.arraycopy(staged, 0, image, 0, shared);
            return dataBytes;
        }

        private void takePlain() {
            if (source.size() > IMAGE_SIZE) {
                finding.mark(TOO_MANY, IMAGE_SIZE);
                return;
            }
            for (int k = 0; k < source.size(); k++) {
                stage(k, source.at(k));
            }
        }

        private void takeLines(int form) {
            ended = false;
            int start = 0;
            for (int i = 0; i <= source.size() && !ended && !finding.isFault(); i++) {
                int b = source.at(i);
                if (b == LINE_END || b == NONE) {
                    takeLine(form, start, stopOf(start, i));
                    start = i + 1;
                }
            }
            if (!ended && !finding.isFault()) {
                finding.mark(NO_END, source.size());
            }
        }

        /** A byte 13 is left out only ahead of a byte 10, so not at the end of a last LINE that lacks it. */
        private int stopOf(int start, int i) {
            boolean returned = source.at(i) == LINE_END && i > start && source.at(i - 1) == RETURN;
            return returned ? i - 1 : i;
        }

        private void takeLine(int form, int start, int stop) {
            if (stop <= start) {
                return;
            }
            boolean colon = form == FORM_COLON;
            if (!(colon ? isColonLine(start, stop) : isSLine(start, stop))) {
                finding.mark(NOT_A_LINE, start);
            } else if (sumOf(start + (colon ? 1 : 2), stop) % 256 != (colon ? 0 : 255)) {
                finding.mark(WRONG_SUM, start);
            } else if (lineType == END) {
                ended = true;
            } else if (lineType == DATA) {
                takeData(start);
            }
        }

        private void takeData(int start) {
            if (lineCount > 0 && lineAddress + lineCount > IMAGE_SIZE) {
                finding.mark(TOO_HIGH, start);
                return;
            }
            for (int k = 0; k < lineCount; k++) {
                stage(lineAddress + k, source.pairAt(lineData + 2 * k));
            }
        }

        private boolean isColonLine(int start, int stop) {
            if (source.at(start) != ':' || stop - start < 11 || !areDigits(start + 1, stop)) {
                return false;
            }
            int n = source.pairAt(start + 1);
            int type = source.pairAt(start + 7);
            lineAddress = source.pairAt(start + 3) * 256 + source.pairAt(start + 5);
            lineData = start + 9;
            lineCount = n;
            lineType = type == 0 ? DATA : END;
            return stop - start == 11 + 2 * n && (type == 0 || type == 1 && n == 0);
        }

        private boolean isSLine(int start, int stop) {
            if (source.at(start) != 'S' || stop - start < 10 || !areDigits(start + 2, stop)) {
                return false;
            }
            int type = source.at(start + 1);
            int n = source.pairAt(start + 2);
            lineAddress = source.pairAt(start + 4) * 256 + source.pairAt(start + 6);
            lineData = start + 8;
            lineCount = n - 3;
            lineType = type == '1' ? DATA : type == '0' ? UNSEEN : END;
            return stop - start == 4 + 2 * n && (type == '0' || type == '1' || type == '9' && n == 3);
        }

        private boolean areDigits(int from, int stop) {
            for (int i = from; i < stop; i++) {
                if (source.digitAt(i) == NONE) {
                    return false;
                }
            }
            return true;
        }

        private int sumOf(int from, int stop) {
            int sum = 0;
            for (int i = from; i < stop; i += 2) {
                sum += source.pairAt(i);
            }
            return sum;
        }

        private void stage(int address, int b) {
            if (address >= 0 && address < IMAGE_SIZE) {
                staged[address] = b;
                dataBytes++;
            }
        }
    }

    /** Writes part of the IMAGE as LINES of form 1 or 2. */
    private static final class FormWriter {
        private final Tape target;
        private int sum;

        FormWriter(Tape target) {
            this.target = target;
        }

        /** Told ahead of writing, since the tape must stay as it is if it would be too much. */
        int lengthOf(int form, int count) {
            int empty = form == FORM_COLON ? 12 : 11;
            int lines = (count + LINE_DATA - 1) / LINE_DATA;
            return (lines + 1) * empty + 2 * count;
        }

        void writeOut(int[] image, int form, int a, int b) {
            target.cutTo(0);
            for (int from = a; from <= b; from += LINE_DATA) {
                int count = Math.min(LINE_DATA, b - from + 1);
                startLine(form, form == FORM_COLON ? 0 : 1, from, count);
                for (int i = from; i < from + count && i < image.length; i++) {
                    addByte(i >= 0 ? image[i] : 0);
                }
                stopLine(form);
            }
            startLine(form, form == FORM_COLON ? 1 : 9, 0, 0);
            stopLine(form);
        }

        private void startLine(int form, int type, int address, int count) {
            sum = 0;
            if (form == FORM_COLON) {
                target.add(':');
                addByte(count);
                addAddress(address);
                addByte(type);
            } else {
                target.add('S');
                target.addDigit(type);
                addByte(count + 3);
                addAddress(address);
            }
        }

        private void stopLine(int form) {
            addByte((form == FORM_COLON ? 0 : 255) - sum & BYTE_MOST);
            target.add(LINE_END);
        }

        private void addAddress(int address) {
            addByte(address >> 8);
            addByte(address & BYTE_MOST);
        }

        private void addByte(int b) {
            target.addDigit(b >> 4 & 15);
            target.addDigit(b & 15);
            sum += b;
        }
    }

    /** One CHIP; its addresses are those of the rows, LOGICAL ones are told as such. */
    private static final class Chip {
        private static final int LOW = 1;
        private static final int HIGH = 2;
        private static final int NEED = 3;
        private static final int COUNT = 4;
        private static final int LOGICAL = 5;

        private final int size;
        private final int id;
        private final boolean erasable;
        private int least;
        private int most;
        private int bears;
        private int extra;
        private int life;
        private final int[] low;
        private final int[] high;
        private final int[] needs;
        private final int[] counts;
        private final int[] latestData;
        private final boolean[] badBlocks = new boolean[SIZE_MOST / BLOCK_SIZE];
        private final boolean[] lacking = new boolean[PINS];
        private int erasures;
        private int pulsesEver;

        /** The size is one that isSize takes. */
        Chip(int size, int id, boolean erasable) {
            this.size = isSize(size) ? size : BLOCK_SIZE;
            this.id = id;
            this.erasable = erasable;
            low = new int[this.size];
            high = new int[this.size];
            needs = new int[this.size];
            counts = new int[this.size];
            latestData = new int[this.size];
            Arrays.fill(low, BYTE_MOST);
            Arrays.fill(high, BYTE_MOST);
            Arrays.fill(needs, NEED_AT_FIRST);
            Arrays.fill(latestData, NONE);
        }

        void setLimits(int leastVolts, int mostVolts, int bearsPulses) {
            least = leastVolts;
            most = mostVolts;
            bears = bearsPulses;
        }

        void setWear(int extraPulses, int lifeErasures) {
            extra = extraPulses;
            life = lifeErasures;
        }

        boolean setNeed(int address, int v) {
            if (!isAddress(address)) {
                return false;
            }
            needs[address] = v;
            return true;
        }

        boolean setBad(int block, boolean it) {
            if (!isWithin(block, 0, blockCount() - 1)) {
                return false;
            }
            badBlocks[block] = it;
            return true;
        }

        boolean setContact(int pin, boolean it) {
            if (!isWithin(pin, 0, PINS - 1)) {
                return false;
            }
            lacking[pin] = !it;
            return true;
        }

        void wipe() {
            erasures++;
            Arrays.fill(low, BYTE_MOST);
            Arrays.fill(high, BYTE_MOST);
            Arrays.fill(counts, 0);
            Arrays.fill(latestData, NONE);
            if (erasures > life) {
                for (int a = 0; a < size; a++) {
                    needs[a]++;
                }
            }
        }

        int property(int what) {
            switch (what) {
                case 0:
                    return size;
                case 1:
                    return logicalCount();
                case 2:
                    return firstLackingPin();
                case 3:
                    return erasures;
                case 4:
                    return pulsesEver;
                default:
                    return NONE;
            }
        }

        int cell(int what, int a) {
            if (what == LOGICAL) {
                return addressOf(a);
            }
            if (!isAddress(a)) {
                return NONE;
            }
            switch (what) {
                case LOW:
                    return low[a];
                case HIGH:
                    return high[a];
                case NEED:
                    return needs[a];
                case COUNT:
                    return counts[a];
                default:
                    return NONE;
            }
        }

        int firstLackingPin() {
            for (int pin = 0; pin < PINS; pin++) {
                if (lacking[pin]) {
                    return pin;
                }
            }
            return NONE;
        }

        int logicalCount() {
            int good = 0;
            for (int block = 0; block < blockCount(); block++) {
                if (!badBlocks[block]) {
                    good++;
                }
            }
            return good * BLOCK_SIZE;
        }

        /** The address where a LOGICAL one lies, or NONE. */
        int addressOf(int logical) {
            if (logical < 0) {
                return NONE;
            }
            int ahead = logical / BLOCK_SIZE;
            for (int block = 0; block < blockCount(); block++) {
                if (!badBlocks[block]) {
                    if (ahead == 0) {
                        return block * BLOCK_SIZE + logical % BLOCK_SIZE;
                    }
                    ahead--;
                }
            }
            return NONE;
        }

        boolean isRight(int address, int aim) {
            return isAddress(address) && low[address] == aim && high[address] == aim;
        }

        /** Whether LOW or HIGH has a 0 where the byte has a 1, which no pulse mends. */
        boolean mustGoBack(int address, int aim) {
            return isAddress(address) && (low[address] & high[address] & aim) != aim;
        }

        /** One PULSE. */
        void takePulse(int address, int d, int volts) {
            pulsesEver++;
            if (volts < least || !isAddress(address)) {
                return;
            }
            counts[address] = latestData[address] == d ? counts[address] + 1 : 1;
            latestData[address] = d;
            if (counts[address] >= needs[address]) {
                low[address] &= d;
            }
            if (counts[address] >= needs[address] + extra) {
                high[address] &= d;
            }
        }

        private int blockCount() {
            return size / BLOCK_SIZE;
        }

        private boolean isAddress(int a) {
            return a >= 0 && a < size;
        }
    }

    /**
     * The STEPS of a RECIPE, each ahead of those inside it: those of a try, or the first ones of an
     * ok, begin right behind it; the others of an ok begin at its otherwise; behind[i] is the STEP that
     * follows all that lies in STEP i. A loop over STEPS goes on at least by one, so that it ends
     * whatever the rows hold.
     */
    private static final class Recipe {
        private final int[] kinds = new int[STEPS_MOST];
        private final int[] numbers = new int[STEPS_MOST];
        private final int[] otherwise = new int[STEPS_MOST];
        private final int[] behind = new int[STEPS_MOST];
        private int count;
        private int peakVolts = NONE;
        private int mostPulses;
        private int mostWorked;

        void clear() {
            count = 0;
        }

        boolean isFull() {
            return count >= STEPS_MOST;
        }

        /** A new last STEP: its number, or NONE if there is no room. */
        int addStep(int kind) {
            if (isFull() || count < 0) {
                return NONE;
            }
            kinds[count] = kind;
            numbers[count] = 0;
            otherwise[count] = count + 1;
            behind[count] = count + 1;
            count++;
            return count - 1;
        }

        void setNumber(int i, int number) {
            if (isStep(i)) {
                numbers[i] = number;
            }
        }

        void startOtherwise(int i) {
            if (isStep(i)) {
                otherwise[i] = count;
            }
        }

        void close(int i) {
            if (isStep(i)) {
                behind[i] = count;
            }
        }

        int kindOf(int i) {
            return isStep(i) ? kinds[i] : NONE;
        }

        int numberOf(int i) {
            return isStep(i) ? numbers[i] : 0;
        }

        int otherwiseOf(int i) {
            return isStep(i) ? otherwise[i] : count;
        }

        int behindOf(int i) {
            return isStep(i) ? behind[i] : count;
        }

        /** Measured once, when the RECIPE is read, since each burning asks for it. */
        void measure() {
            peakVolts = NONE;
            volts(0, count, 0, 0);
            mostPulses = (int) Math.min(COUNTED_MOST, most(true, 0, count, 0));
            mostWorked = (int) Math.min(COUNTED_MOST, most(false, 0, count, 0));
        }

        boolean fits(Chip chip) {
            return peakVolts <= chip.most && mostPulses <= chip.bears && mostWorked <= WORKED_MOST;
        }

        /**
         * The most volts on any WAY behind the STEPS from .. to, when at most so many stood ahead. The
         * most are enough to know: more volts ahead of STEPS never make for fewer behind them.
         */
        private int volts(int from, int to, int ahead, int depth) {
            if (depth > OPEN_MOST) {
                return ahead;
            }
            int now = ahead;
            for (int i = from; i < to; i = Math.max(i + 1, behindOf(i))) {
                int kind = kindOf(i);
                if (kind == VOLT) {
                    now = numberOf(i);
                } else if (kind == PULSE) {
                    peakVolts = Math.max(peakVolts, now);
                } else if (kind == OK) {
                    int first = volts(i + 1, otherwiseOf(i), now, depth + 1);
                    now = Math.max(first, volts(otherwiseOf(i), behindOf(i), now, depth + 1));
                } else if (kind == TRY) {
                    now = voltsOfTry(i, now, depth);
                }
            }
            return now;
        }

        private int voltsOfTry(int i, int ahead, int depth) {
            int now = ahead;
            for (int time = 0; time < numberOf(i); time++) {
                int then = Math.max(now, volts(i + 1, behindOf(i), now, depth + 1));
                if (then == now) {
                    return now;
                }
                now = then;
            }
            return now;
        }

        /** The most pulses, or else the most STEPS worked, on any WAY through the STEPS from .. to. */
        private long most(boolean pulses, int from, int to, int depth) {
            if (depth > OPEN_MOST) {
                return 0;
            }
            long sum = 0;
            for (int i = from; i < to; i = Math.max(i + 1, behindOf(i))) {
                int kind = kindOf(i);
                sum += pulses ? (kind == PULSE ? numberOf(i) : 0) : 1;
                if (kind == TRY) {
                    sum += numberOf(i) * most(pulses, i + 1, behindOf(i), depth + 1);
                } else if (kind == OK) {
                    long first = most(pulses, i + 1, otherwiseOf(i), depth + 1);
                    sum += Math.max(first, most(pulses, otherwiseOf(i), behindOf(i), depth + 1));
                }
            }
            return sum;
        }

        private boolean isStep(int i) {
            return i >= 0 && i < count && i < STEPS_MOST;
        }
    }

    /** Reads a RECIPE, TOKEN by TOKEN; each method that takes some answers whether it found no FAULT. */
    private static final class RecipeReader {
        private static final int OUT_OF_PLACE = 1;
        private static final int WRONG_NUMBER = 2;
        private static final int TOO_MANY = 3;

        private static final int AT_END = 0;
        private static final int WORD = 1;
        private static final int NUMBER = 2;
        private static final int SIGN = 3;
        private static final int NO_TOKEN = 4;

        private static final int NUMBER_CAP = 1000;

        private final Tape text;
        private final Finding finding;
        private int tokenKind;
        private int tokenFrom;
        private int tokenStop;

        private final int[] open = new int[OPEN_MOST];
        private final boolean[] wantsElse = new boolean[OPEN_MOST];
        private int openCount;

        RecipeReader(Tape text, Finding finding) {
            this.text = text;
            this.finding = finding;
        }

        boolean readInto(Recipe recipe) {
            finding.start();
            if (text.size() > RECIPE_MOST) {
                finding.mark(OUT_OF_PLACE, RECIPE_MOST);
                return false;
            }
            recipe.clear();
            openCount = 0;
            tokenStop = 0;
            nextToken();
            boolean good = true;
            // Each turn takes a TOKEN at least, so that there are no more turns than bytes.
            for (int turn = 0; turn < RECIPE_MOST && good && tokenKind != AT_END; turn++) {
                good = isSign('}') ? takeClosing(recipe) : takeStep(recipe);
            }
            if (good && openCount > 0) {
                good = refuse(OUT_OF_PLACE);
            }
            if (good) {
                recipe.measure();
            }
            return good;
        }

        /** A STEP, of a try or an ok only what stands ahead of the STEPS in it. */
        private boolean takeStep(Recipe recipe) {
            int kind = stepKind();
            if (kind == NONE) {
                return refuse(OUT_OF_PLACE);
            }
            boolean opens = kind == TRY || kind == OK;
            if (recipe.isFull() || opens && openCount >= OPEN_MOST) {
                return refuse(TOO_MANY);
            }
            int i = recipe.addStep(kind);
            nextToken();
            switch (kind) {
                case VOLT:
                    return takeNumber(recipe, i, 0, VOLTS_MOST) && takeSign(';');
                case PULSE:
                    return takeNumber(recipe, i, 1, TIMES_MOST) && takeSign(';');
                case VERIFY:
                    return takeSign(';');
                case TRY:
                    return takeNumber(recipe, i, 1, TIMES_MOST) && takeOpening(i, false);
                default:
                    return takeOpening(i, true);
            }
        }

        private boolean takeOpening(int i, boolean elseFollows) {
            if (!takeSign('{')) {
                return false;
            }
            if (openCount >= 0 && openCount < OPEN_MOST) {
                open[openCount] = i;
                wantsElse[openCount] = elseFollows;
                openCount++;
            }
            return true;
        }

        private boolean takeClosing(Recipe recipe) {
            int top = openCount - 1;
            if (!isWithin(top, 0, OPEN_MOST - 1)) {
                return refuse(OUT_OF_PLACE);
            }
            nextToken();
            if (!wantsElse[top]) {
                recipe.close(open[top]);
                openCount--;
                return true;
            }
            if (!isWord("else")) {
                return refuse(OUT_OF_PLACE);
            }
            nextToken();
            wantsElse[top] = false;
            recipe.startOtherwise(open[top]);
            return takeSign('{');
        }

        private boolean takeNumber(Recipe recipe, int i, int least, int most) {
            if (tokenKind != NUMBER) {
                return refuse(OUT_OF_PLACE);
            }
            int number = tokenNumber();
            if (!isWithin(number, least, most)) {
                return refuse(WRONG_NUMBER);
            }
            recipe.setNumber(i, number);
            nextToken();
            return true;
        }

        private boolean takeSign(int sign) {
            if (!isSign(sign)) {
                return refuse(OUT_OF_PLACE);
            }
            nextToken();
            return true;
        }

        private boolean refuse(int fault) {
            finding.mark(fault, tokenFrom);
            return false;
        }

        private int stepKind() {
            if (isWord("volt")) {
                return VOLT;
            }
            if (isWord("pulse")) {
                return PULSE;
            }
            if (isWord("verify")) {
                return VERIFY;
            }
            if (isWord("try")) {
                return TRY;
            }
            return isWord("ok") ? OK : NONE;
        }

        private boolean isWord(String word) {
            if (tokenKind != WORD || tokenStop - tokenFrom != word.length()) {
                return false;
            }
            for (int i = 0; i < word.length(); i++) {
                if (text.at(tokenFrom + i) != word.charAt(i)) {
                    return false;
                }
            }
            return true;
        }

        private boolean isSign(int sign) {
            return tokenKind == SIGN && text.at(tokenFrom) == sign;
        }

        /** Capped, since no NUMBER of a STEP is so high, and many DIGITS would pass an int. */
        private int tokenNumber() {
            int number = 0;
            for (int i = tokenFrom; i < tokenStop; i++) {
                number = Math.min(NUMBER_CAP, number * 10 + text.at(i) - '0');
            }
            return number;
        }

        private void nextToken() {
            tokenFrom = behindBlanks(tokenStop);
            tokenKind = kindOfByte(text.at(tokenFrom));
            tokenStop = Math.min(tokenFrom + 1, text.size());
            if (tokenKind == WORD || tokenKind == NUMBER) {
                tokenStop = behindSame(tokenFrom, tokenKind);
            }
        }

        private int behindBlanks(int from) {
            for (int i = from; i < text.size(); i++) {
                if (text.at(i) != BLANK && text.at(i) != LINE_END) {
                    return i;
                }
            }
            return text.size();
        }

        private int behindSame(int from, int kind) {
            for (int i = from; i < text.size(); i++) {
                if (kindOfByte(text.at(i)) != kind) {
                    return i;
                }
            }
            return text.size();
        }

        private static int kindOfByte(int b) {
            if (b == NONE) {
                return AT_END;
            }
            if (b >= 'a' && b <= 'z' || b >= 'A' && b <= 'Z') {
                return WORD;
            }
            if (b >= '0' && b <= '9') {
                return NUMBER;
            }
            return b == ';' || b == '{' || b == '}' ? SIGN : NO_TOKEN;
        }
    }

    /** A RECIPE at work on a CHIP; it stands still for good once no pulse is left. */
    private static final class Worker {
        private final Chip chip;
        private final Recipe recipe;
        private int left;
        private int address;
        private int aim;
        private int voltsNow;
        private boolean verified;

        Worker(Chip chip, Recipe recipe, int pulses) {
            this.chip = chip;
            this.recipe = recipe;
            left = pulses;
        }

        void workAt(int atAddress, int aimedByte) {
            address = atAddress;
            aim = aimedByte;
            voltsNow = 0;
            verified = false;
            workSteps(0, recipe.count, 0);
        }

        private void workSteps(int from, int to, int depth) {
            if (depth > OPEN_MOST) {
                return;
            }
            for (int i = from; i < to && left > 0; i = Math.max(i + 1, recipe.behindOf(i))) {
                workStep(i, depth);
            }
        }

        private void workStep(int i, int depth) {
            switch (recipe.kindOf(i)) {
                case VOLT:
                    voltsNow = recipe.numberOf(i);
                    break;
                case PULSE:
                    givePulses(recipe.numberOf(i));
                    break;
                case VERIFY:
                    verified = chip.isRight(address, aim);
                    break;
                case TRY:
                    for (int time = 0; time < recipe.numberOf(i) && !verified && left > 0; time++) {
                        workSteps(i + 1, recipe.behindOf(i), depth + 1);
                    }
                    break;
                default:
                    workBranch(i, depth);
                    break;
            }
        }

        private void workBranch(int i, int depth) {
            if (verified) {
                workSteps(i + 1, recipe.otherwiseOf(i), depth + 1);
            } else {
                workSteps(recipe.otherwiseOf(i), recipe.behindOf(i), depth + 1);
            }
        }

        private void givePulses(int pulses) {
            for (int n = 0; n < pulses && left > 0; n++) {
                chip.takePulse(address, aim, voltsNow);
                left--;
            }
        }
    }
}
