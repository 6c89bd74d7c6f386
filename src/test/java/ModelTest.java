import java.util.ArrayList;
import java.util.Arrays;
import java.util.HashSet;
import java.util.List;
import java.util.Random;
import java.util.Set;
import java.util.regex.Matcher;
import java.util.regex.Pattern;

/**
 * Random runs of calls against a second program, written in another way: files by patterns, RECIPES as trees of which
 * all WAYS are gone one by one, burning as a list of pulses that is cut. Seeds are fixed, so each run is always the same.
 */
public final class ModelTest {
    private static final int NONE = -1;
    private static final int CALLS = 512;

    public static void main(String[] args) {
        for (int seed = 0; seed < 3000 && !Check.anyWrong(); seed++) {
            new Run(seed).go();
        }
        Check.finish();
    }

    /** One object of each program, and the calls that both get. */
    private static final class Run {
        private final Random random;
        private final ChipBurner x = new ChipBurner();
        private final Model m = new Model();
        private final StringBuilder log = new StringBuilder();
        private int calls = 0;

        Run(int seed) {
            random = new Random(seed);
            log.append("seed ").append(seed);
        }

        private int below(int n) {
            return random.nextInt(n);
        }

        private boolean rarely() {
            return below(30) == 0;
        }

        /** A number that is mostly as told, from low to high, sometimes just beside it or far off. */
        private int number(int low, int high) {
            if (rarely()) {
                int[] odd = {low - 1, high + 1, -1, Integer.MAX_VALUE, Integer.MIN_VALUE};
                return odd[below(odd.length)];
            }
            return low + below(high - low + 1);
        }

        private void same(String call, int got, int want) {
            calls++;
            if (got != want && !Check.anyWrong()) {
                System.out.println(log);
            }
            Check.due(call, got, want);
        }

        private void same(String call, boolean got, boolean want) {
            same(call, got ? 1 : 0, want ? 1 : 0);
        }

        void go() {
            while (calls < CALLS - 60 && !Check.anyWrong()) {
                switch (below(16)) {
                    case 0: case 1: readFile(); break;
                    case 2: case 3: readRecipe(); break;
                    case 4: tapeCalls(); break;
                    case 5: imageCalls(); break;
                    case 6: case 7: makeChip(); break;
                    case 8: case 9: changeChip(); break;
                    case 10: lookAtChip(); break;
                    case 11: walk(); break;
                    default: burn(); break;
                }
            }
        }

        private void readFile() {
            int form = number(0, 2);
            String text = Texts.file(random, form);
            load(text);
            log.append("\nfile ").append(form).append(" of ").append(Check.shown(text));
            same("file", x.file(form), m.file(form));
            same("fault(0)", x.fault(0), m.fault(0));
            same("fault(1)", x.fault(1), m.fault(1));
            int a = below(256);
            same("image", x.image(a), m.image(a));
        }

        private void readRecipe() {
            int r = number(0, 3);
            String text = Texts.recipe(random);
            if (!Model.canBeGone(text)) {
                return;
            }
            load(text);
            log.append("\nrecipe ").append(r).append(" of ").append(Check.shown(text));
            same("recipe", x.recipe(r), m.recipe(r));
            same("fault(0)", x.fault(0), m.fault(0));
            same("fault(1)", x.fault(1), m.fault(1));
            for (int what = 0; what < 4; what++) {
                same("walk " + what, x.walk(r, what), m.walk(r, what));
            }
        }

        private void load(String text) {
            Check.load(x, text);
            calls += 2 + (text.length() + 19) / 20;
            m.tape = text;
        }

        private void tapeCalls() {
            int form = number(1, 2);
            int a = number(0, 255);
            int b = rarely() ? number(0, 255) : a + below(150);
            log.append("\nwrite ").append(form).append(' ').append(a).append(' ').append(b);
            same("write", x.write(form, a, b), m.write(form, a, b));
            int i = number(0, 60);
            same("tape", x.tape(i), m.tapeAt(i));
            same("about(1)", x.about(1), m.tape.length());
            same("about(2)", x.about(2), m.brought);
            int n = number(0, 400);
            same("end", x.end(n), m.end(n));
            int[] f = {random.nextInt(), random.nextInt(), random.nextInt(), random.nextInt(), random.nextInt()};
            same("feed", x.feed(f[0], f[1], f[2], f[3], f[4]), m.feed(f));
            for (int k = 0; k < 3; k++) {
                int at = below(400);
                same("tape " + at, x.tape(at), m.tapeAt(at));
            }
        }

        private void imageCalls() {
            int v = below(3) > 0 ? 255 : number(0, 255);
            log.append("\nfill ").append(v);
            same("fill", x.fill(v), m.fill(v));
            int a = number(0, 255);
            same("image", x.image(a), m.image(a));
        }

        private void makeChip() {
            int[] p = {8 * number(1, 8), number(0, 255), number(1, 12), number(12, 30), number(20, 200), number(0, 5), number(0, 3)};
            boolean erasable = below(4) > 0;
            log.append("\nchip ").append(Arrays.toString(p)).append(erasable);
            same("chip", x.chip(p[0], p[1], erasable, p[2], p[3], p[4], p[5], p[6]), m.chip(p, erasable));
            same("about(0)", x.about(0), m.chips.size());
        }

        private int aChip() {
            return m.chips.isEmpty() ? number(0, 3) : number(0, m.chips.size() - 1);
        }

        private void changeChip() {
            int c = aChip();
            int which = below(5);
            boolean it = below(3) == 0;
            log.append("\nchange ").append(c).append(' ').append(which).append(' ').append(it);
            if (which == 0) {
                int a = number(0, 63);
                int v = below(2) == 0 ? number(1, 60) : number(1, 5);
                log.append(" need ").append(a).append(' ').append(v);
                same("need", x.need(c, a, v), m.need(c, a, v));
            } else if (which == 1) {
                int block = number(0, 7);
                log.append(" block ").append(block);
                same("bad", x.bad(c, block, it), m.bad(c, block, it));
            } else if (which == 2) {
                int pin = number(0, 27);
                boolean has = below(4) > 0;
                same("contact", x.contact(c, pin, has), m.contact(c, pin, has));
                same("contact again", x.contact(c, pin, !it), m.contact(c, pin, !it));
            } else {
                same("erase", x.erase(c), m.erase(c));
            }
        }

        private void lookAtChip() {
            int c = aChip();
            for (int k = 0; k < 6; k++) {
                int what = below(2) == 0 ? number(0, 5) : 100 * number(1, 5) + below(65);
                same("chipOf(" + c + ", " + what + ")", x.chipOf(c, what), m.chipOf(c, what));
            }
        }

        private void walk() {
            int r = number(0, 3);
            int what = number(0, 3);
            same("walk", x.walk(r, what), m.walk(r, what));
        }

        private void burn() {
            int c = aChip();
            int r = number(0, 3);
            int id = c >= 0 && c < m.chips.size() && !rarely() ? m.chips.get(c).id : number(0, 255);
            int f = number(0, 255);
            int w = number(1, 8);
            if (below(3) == 0) {
                boolean high = below(2) == 0;
                log.append("\nread ").append(c).append(' ').append(high).append(' ').append(f).append(' ').append(w);
                same("read", x.read(c, high, f, w), m.read(c, high, f, w));
                return;
            }
            int pulses = below(2) == 0 ? number(0, 100000) : number(0, 60);
            log.append("\nburn ").append(c).append(' ').append(r).append(' ').append(id).append(' ').append(f).append(' ')
                .append(w).append(' ').append(pulses);
            same("wrong", x.wrong(c, f, w), m.wrong(c, f, w));
            same("why", x.why(c, r, id, f, w), m.why(c, r, id, f, w));
            same("burn", x.burn(c, r, id, f, w, pulses), m.burn(c, r, id, f, w, pulses));
            same("wrong", x.wrong(c, f, w), m.wrong(c, f, w));
            lookAtChip();
        }
    }

    /** Texts that are mostly right, and some that are spoilt at a byte. */
    private static final class Texts {
        static String file(Random random, int form) {
            String text = form == 1 || form == 2 ? lines(random, form) : plain(random);
            if (random.nextInt(4) == 0) {
                text = spoilt(random, text, "\n\r:S0123456789ABCDEFabg \u00ff");
            }
            return text.substring(0, Math.min(400, text.length()));
        }

        private static String plain(Random random) {
            StringBuilder text = new StringBuilder();
            int length = random.nextInt(4) == 0 ? 250 + random.nextInt(12) : random.nextInt(40);
            for (int i = 0; i < length; i++) {
                text.append((char) (random.nextInt(3) == 0 ? random.nextInt(256) : 255));
            }
            return text.toString();
        }

        private static String lines(Random random, int form) {
            StringBuilder text = new StringBuilder();
            int count = random.nextInt(5);
            for (int n = 0; n < count; n++) {
                int type = form == 1 ? 0 : random.nextInt(3) > 0 ? 1 : 0;
                int size = random.nextInt(14);
                int address = random.nextInt(10) == 0 ? 240 + random.nextInt(40) : random.nextInt(243);
                text.append(line(random, form, type, address, size)).append(lineEnd(random));
            }
            if (random.nextInt(12) > 0) {
                int size = random.nextInt(20) == 0 ? 1 : 0;
                text.append(line(random, form, form == 1 ? 1 : 9, random.nextInt(3) * 0x4321 & 0xFFFF, size));
                text.append(random.nextInt(5) == 0 ? "" : lineEnd(random));
                text.append(random.nextInt(6) == 0 ? "what follows" : "");
            }
            return text.toString();
        }

        private static String lineEnd(Random random) {
            String[] ends = {"\n", "\n", "\r\n", "\n\n", "\r\n\r\n"};
            return ends[random.nextInt(ends.length)];
        }

        private static String line(Random random, int form, int type, int address, int size) {
            List<Integer> bytes = new ArrayList<>();
            bytes.add(form == 1 ? size : size + 3);
            bytes.add(address >> 8);
            bytes.add(address & 255);
            if (form == 1) {
                bytes.add(type);
            }
            for (int i = 0; i < size; i++) {
                bytes.add(random.nextInt(256));
            }
            int sum = bytes.stream().mapToInt(b -> b).sum();
            bytes.add((form == 1 ? 512 * 256 : 512 * 256 + 255) - sum + (random.nextInt(40) == 0 ? 1 : 0) & 255);
            StringBuilder text = new StringBuilder(form == 1 ? ":" : "S" + type);
            for (int b : bytes) {
                text.append(String.format("%02X", b));
            }
            return text.toString();
        }

        static String recipe(Random random) {
            StringBuilder text = new StringBuilder();
            if (random.nextInt(3) > 0) {
                text.append("volt ").append(10 + random.nextInt(8)).append(';');
            }
            steps(random, text, 0, 1 + random.nextInt(4));
            String whole = text.toString();
            if (random.nextInt(4) == 0) {
                whole = spoilt(random, whole, " \n;{}0159volteryk\t?");
            }
            return whole.substring(0, Math.min(random.nextInt(30) == 0 ? 205 : 200, whole.length()));
        }

        private static void steps(Random random, StringBuilder text, int depth, int count) {
            for (int n = 0; n < count; n++) {
                text.append(random.nextInt(5) == 0 ? " " : "");
                int kind = random.nextInt(depth > 5 ? 6 : 9);
                if (kind < 2) {
                    text.append("volt ").append(random.nextInt(3) > 0 ? 10 + random.nextInt(8) : random.nextInt(32)).append(';');
                } else if (kind < 4) {
                    text.append("pulse ").append(random.nextInt(40) == 0 ? random.nextInt(60) : 1 + random.nextInt(4)).append(';');
                } else if (kind < 6) {
                    text.append("verify;");
                } else if (kind < 8) {
                    text.append("try ").append(random.nextInt(40) == 0 ? random.nextInt(60) : 1 + random.nextInt(4)).append('{');
                    steps(random, text, depth + 1, random.nextInt(4));
                    text.append('}');
                } else {
                    text.append("ok{");
                    steps(random, text, depth + 1, random.nextInt(3));
                    text.append("}else{");
                    steps(random, text, depth + 1, random.nextInt(3));
                    text.append("}");
                }
            }
        }

        private static String spoilt(Random random, String text, String by) {
            if (text.isEmpty()) {
                return text;
            }
            int at = random.nextInt(text.length());
            char c = by.charAt(random.nextInt(by.length()));
            switch (random.nextInt(4)) {
                case 0: return text.substring(0, at) + text.substring(at + 1);
                case 1: return text.substring(0, at) + c + text.substring(at);
                case 2: return text.substring(0, at);
                default: return text.substring(0, at) + c + text.substring(at + 1);
            }
        }
    }

    /** A STEP with those inside it. */
    private static final class Node {
        final String word;
        int number;
        List<Node> first = new ArrayList<>();
        List<Node> others = new ArrayList<>();

        Node(String word) {
            this.word = word;
        }
    }

    private static final class TextFault extends Exception {
        private static final long serialVersionUID = 1L;
        final int kind;
        final int place;

        TextFault(int kind, int place) {
            this.kind = kind;
            this.place = place;
        }
    }

    /** TOKENS by one pattern, STEPS by descent. */
    private static final class Parser {
        private final List<String> tokens = new ArrayList<>();
        private final List<Integer> places = new ArrayList<>();
        private int next = 0;
        int count = 0;

        Parser(String text) throws TextFault {
            if (text.length() > 200) {
                throw new TextFault(1, 200);
            }
            Matcher matcher = Pattern.compile("[a-zA-Z]+|[0-9]+|[^ \\n]", Pattern.DOTALL).matcher(text);
            while (matcher.find()) {
                tokens.add(matcher.group());
                places.add(matcher.start());
            }
            tokens.add("");
            places.add(text.length());
        }

        List<Node> whole() throws TextFault {
            List<Node> steps = steps(0);
            expect("");
            return steps;
        }

        private TextFault at(int kind) {
            return new TextFault(kind, places.get(next));
        }

        private void expect(String token) throws TextFault {
            if (!tokens.get(next).equals(token)) {
                throw at(1);
            }
            next++;
        }

        private List<Node> steps(int open) throws TextFault {
            List<Node> steps = new ArrayList<>();
            while (!tokens.get(next).equals("}") && !tokens.get(next).isEmpty()) {
                steps.add(step(open));
            }
            return steps;
        }

        private Node step(int open) throws TextFault {
            Node node = new Node(tokens.get(next));
            if (!List.of("volt", "pulse", "verify", "try", "ok").contains(node.word)) {
                throw at(1);
            }
            boolean opens = node.word.equals("try") || node.word.equals("ok");
            if (count == 40 || opens && open == 5) {
                throw at(3);
            }
            count++;
            next++;
            if (!node.word.equals("verify") && !node.word.equals("ok")) {
                node.number = number(node.word.equals("volt") ? 0 : 1, node.word.equals("volt") ? 30 : 50);
            }
            if (opens) {
                node.first = group(open + 1);
            } else {
                expect(";");
            }
            if (node.word.equals("ok")) {
                expect("else");
                node.others = group(open + 1);
            }
            return node;
        }

        private List<Node> group(int open) throws TextFault {
            expect("{");
            List<Node> steps = steps(open);
            expect("}");
            return steps;
        }

        private int number(int low, int high) throws TextFault {
            String token = tokens.get(next);
            if (!token.matches("[0-9]+")) {
                throw at(1);
            }
            java.math.BigInteger value = new java.math.BigInteger(token);
            if (value.compareTo(java.math.BigInteger.valueOf(low)) < 0 || value.compareTo(java.math.BigInteger.valueOf(high)) > 0) {
                throw at(2);
            }
            next++;
            return value.intValue();
        }
    }

    /** Where a WAY stands: volts, the most volts of a pulse, pulses, STEPS worked. */
    private record State(int volts, int peak, long pulses, long worked) {
    }

    private static final class Ways {
        /** A RECIPE with more states than this is left out of the run. */
        private static final int MANY = 5000;
        boolean tooMany = false;

        Set<State> through(List<Node> steps, Set<State> ahead) {
            Set<State> now = ahead;
            for (Node node : steps) {
                now = through(node, now);
                if (now.size() > MANY) {
                    tooMany = true;
                }
                if (tooMany) {
                    return now;
                }
            }
            return now;
        }

        private Set<State> through(Node node, Set<State> ahead) {
            Set<State> now = new HashSet<>();
            for (State s : ahead) {
                int volts = node.word.equals("volt") ? node.number : s.volts;
                int peak = node.word.equals("pulse") ? Math.max(s.peak, s.volts) : s.peak;
                long pulses = s.pulses + (node.word.equals("pulse") ? node.number : 0);
                now.add(new State(volts, peak, pulses, s.worked + 1));
            }
            if (node.word.equals("ok")) {
                Set<State> both = new HashSet<>(through(node.first, now));
                both.addAll(through(node.others, now));
                return both;
            }
            if (node.word.equals("try")) {
                Set<State> all = new HashSet<>(now);
                for (int time = 0; time < node.number && !tooMany; time++) {
                    now = through(node.first, now);
                    all.addAll(now);
                }
                return all;
            }
            return now;
        }
    }

    private static final class ModelRecipe {
        List<Node> steps = new ArrayList<>();
        int count = 0;
        int volts = NONE;
        long pulses = 0;
        long worked = 0;
    }

    private static final class ModelChip {
        int size;
        int id;
        boolean erasable;
        int least;
        int most;
        int bears;
        int extra;
        int life;
        int erased = 0;
        int pulses = 0;
        final Set<Integer> bad = new HashSet<>();
        final Set<Integer> lacking = new HashSet<>();
        int[] low;
        int[] high;
        int[] need;
        int[] count;
        Integer[] data;

        List<Integer> logical() {
            List<Integer> all = new ArrayList<>();
            for (int a = 0; a < size; a++) {
                if (!bad.contains(a / 8)) {
                    all.add(a);
                }
            }
            return all;
        }
    }

    private static final class BrokenOff extends Exception {
        private static final long serialVersionUID = 1L;
    }

    private static final class Model {
        private static final Set<State> AHEAD = Set.of(new State(0, NONE, 0, 0));
        String tape = "";
        int[] image = new int[256];
        int fault = NONE;
        int place = NONE;
        int brought = 0;
        final List<ModelChip> chips = new ArrayList<>();
        final List<ModelRecipe> recipes = new ArrayList<>();
        private int left;
        private int volts;
        private boolean ok;

        Model() {
            Arrays.fill(image, 255);
            for (int r = 0; r < 4; r++) {
                recipes.add(new ModelRecipe());
            }
        }

        int feed(int[] words) {
            if (tape.length() > 380) {
                return NONE;
            }
            StringBuilder more = new StringBuilder(tape);
            for (int word : words) {
                for (byte b : java.nio.ByteBuffer.allocate(4).putInt(word).array()) {
                    more.append((char) (b & 255));
                }
            }
            tape = more.toString();
            return tape.length();
        }

        int end(int n) {
            if (n < 0 || n > tape.length()) {
                return NONE;
            }
            tape = tape.substring(0, n);
            return n;
        }

        int tapeAt(int i) {
            return i < 0 || i >= tape.length() ? NONE : tape.charAt(i);
        }

        int image(int a) {
            return a < 0 || a > 255 ? NONE : image[a];
        }

        boolean fill(int v) {
            if (v < 0 || v > 255) {
                return false;
            }
            Arrays.fill(image, v);
            return true;
        }

        int fault(int what) {
            return what == 0 ? fault : what == 1 ? place : NONE;
        }

        int file(int form) {
            if (form < 0 || form > 2) {
                return NONE;
            }
            String text = tape;
            tape = "";
            fault = 0;
            place = NONE;
            int[] then = image.clone();
            try {
                int got = form == 0 ? plain(text, then) : lines(form, text, then);
                image = then;
                brought += got;
                return got;
            } catch (TextFault f) {
                fault = f.kind;
                place = f.place;
                return NONE;
            }
        }

        private int plain(String text, int[] then) throws TextFault {
            if (text.length() > 256) {
                throw new TextFault(5, 256);
            }
            for (int i = 0; i < text.length(); i++) {
                then[i] = text.charAt(i);
            }
            return text.length();
        }

        private int lines(int form, String text, int[] then) throws TextFault {
            int start = 0;
            int got = 0;
            for (String piece : text.split("\n", -1)) {
                boolean ended = start + piece.length() < text.length();
                String line = ended && piece.endsWith("\r") ? piece.substring(0, piece.length() - 1) : piece;
                if (!line.isEmpty()) {
                    int n = line(form, line, start, then);
                    if (n == NONE) {
                        return got;
                    }
                    got += n;
                }
                start += piece.length() + 1;
            }
            throw new TextFault(4, text.length());
        }

        /** How many data bytes, NONE for the end. */
        private int line(int form, String line, int start, int[] then) throws TextFault {
            String shape = form == 1 ? ":(([0-9A-F]{2}){5,})" : "S[019](([0-9A-F]{2}){4,})";
            Matcher matcher = Pattern.compile(shape).matcher(line);
            if (!matcher.matches()) {
                throw new TextFault(1, start);
            }
            String digits = matcher.group(1);
            int[] bytes = new int[digits.length() / 2];
            for (int i = 0; i < bytes.length; i++) {
                bytes[i] = Integer.parseInt(digits.substring(2 * i, 2 * i + 2), 16);
            }
            int type = form == 1 ? bytes[3] : line.charAt(1) - '0';
            int data = form == 1 ? 4 : 3;
            int count = bytes.length - 1 - data;
            int last = form == 1 ? 1 : 9;
            boolean counted = bytes[0] == (form == 1 ? count : bytes.length - 1);
            if (!counted || type != 0 && type != 1 && type != 9 || form == 1 && type == 9 || type == last && count != 0) {
                throw new TextFault(1, start);
            }
            if (Arrays.stream(bytes).sum() % 256 != (form == 1 ? 0 : 255)) {
                throw new TextFault(2, start);
            }
            if (type == last) {
                return NONE;
            }
            if (form == 2 && type == 0) {
                return 0;
            }
            for (int i = 0; i < count; i++) {
                int a = bytes[1] * 256 + bytes[2] + i;
                if (a > 255) {
                    throw new TextFault(3, start);
                }
                then[a] = bytes[data + i];
            }
            return count;
        }

        int write(int form, int a, int b) {
            if (form != 1 && form != 2 || a < 0 || b > 255 || a > b) {
                return NONE;
            }
            StringBuilder text = new StringBuilder();
            for (int from = a; from <= b; from += 16) {
                text.append(written(form, form == 1 ? 0 : 1, from, Arrays.copyOfRange(image, from, Math.min(b + 1, from + 16))));
            }
            text.append(form == 1 ? ":00000001FF\n" : "S9030000FC\n");
            if (text.length() > 400) {
                return NONE;
            }
            tape = text.toString();
            return tape.length();
        }

        private String written(int form, int type, int address, int[] data) {
            StringBuilder text = new StringBuilder();
            int sum = address + Arrays.stream(data).sum() + data.length + (form == 1 ? type : 3);
            text.append(form == 1 ? String.format(":%02X%04X%02X", data.length, address, type)
                : String.format("S%d%02X%04X", type, data.length + 3, address));
            for (int b : data) {
                text.append(String.format("%02X", b));
            }
            return text.append(String.format("%02X\n", Math.floorMod((form == 1 ? 0 : 255) - sum, 256))).toString();
        }

        int chip(int[] p, boolean erasable) {
            int[][] told = {{8, 64}, {0, 255}, {1, 30}, {1, 30}, {1, 200}, {0, 5}, {0, 50}};
            for (int i = 0; i < told.length; i++) {
                if (p[i] < told[i][0] || p[i] > told[i][1]) {
                    return NONE;
                }
            }
            if (p[0] % 8 != 0 || p[2] > p[3] || chips.size() == 4) {
                return NONE;
            }
            ModelChip c = new ModelChip();
            c.size = p[0];
            c.id = p[1];
            c.erasable = erasable;
            c.least = p[2];
            c.most = p[3];
            c.bears = p[4];
            c.extra = p[5];
            c.life = p[6];
            c.need = new int[c.size];
            Arrays.fill(c.need, 3);
            blank(c);
            chips.add(c);
            return chips.size() - 1;
        }

        private void blank(ModelChip c) {
            c.low = new int[c.size];
            c.high = new int[c.size];
            c.count = new int[c.size];
            c.data = new Integer[c.size];
            Arrays.fill(c.low, 255);
            Arrays.fill(c.high, 255);
        }

        private ModelChip at(int c) {
            return c < 0 || c >= chips.size() ? null : chips.get(c);
        }

        boolean need(int n, int a, int v) {
            ModelChip c = at(n);
            if (c == null || a < 0 || a >= c.size || v < 1 || v > 60) {
                return false;
            }
            c.need[a] = v;
            return true;
        }

        boolean bad(int n, int block, boolean it) {
            ModelChip c = at(n);
            if (c == null || block < 0 || block >= c.size / 8) {
                return false;
            }
            c.bad.remove(block);
            if (it) {
                c.bad.add(block);
            }
            return true;
        }

        boolean contact(int n, int pin, boolean it) {
            ModelChip c = at(n);
            if (c == null || pin < 0 || pin > 27) {
                return false;
            }
            c.lacking.remove(pin);
            if (!it) {
                c.lacking.add(pin);
            }
            return true;
        }

        int erase(int n) {
            ModelChip c = at(n);
            if (c == null || !c.erasable) {
                return NONE;
            }
            blank(c);
            c.erased++;
            for (int a = 0; a < c.size && c.erased > c.life; a++) {
                c.need[a]++;
            }
            return c.erased;
        }

        int chipOf(int n, int what) {
            ModelChip c = at(n);
            if (c == null) {
                return NONE;
            }
            int lacks = c.lacking.stream().mapToInt(p -> p).min().orElse(NONE);
            int[] plain = {c.size, c.logical().size(), lacks, c.erased, c.pulses};
            if (what >= 0 && what < 5) {
                return plain[what];
            }
            int[][] rows = {c.low, c.high, c.need, c.count, c.logical().stream().mapToInt(a -> a).toArray()};
            for (int row = 0; row < 5; row++) {
                int a = what - 100 * (row + 1);
                if (a >= 0 && a < rows[row].length && what > 0) {
                    return rows[row][a];
                }
            }
            return NONE;
        }

        int recipe(int r) {
            if (r < 0 || r > 3) {
                return NONE;
            }
            String text = tape;
            tape = "";
            fault = 0;
            place = NONE;
            try {
                Parser parser = new Parser(text);
                ModelRecipe made = new ModelRecipe();
                made.steps = parser.whole();
                made.count = parser.count;
                goAllWays(made);
                recipes.set(r, made);
                return made.count;
            } catch (TextFault f) {
                fault = f.kind;
                place = f.place;
                return NONE;
            }
        }

        static boolean canBeGone(String text) {
            Ways ways = new Ways();
            try {
                ways.through(new Parser(text).whole(), AHEAD);
            } catch (TextFault f) {
                return true;
            }
            return !ways.tooMany;
        }

        private void goAllWays(ModelRecipe made) {
            for (State s : new Ways().through(made.steps, AHEAD)) {
                made.volts = Math.max(made.volts, s.peak);
                made.pulses = Math.max(made.pulses, s.pulses);
                made.worked = Math.max(made.worked, s.worked);
            }
        }

        int walk(int r, int what) {
            if (r < 0 || r > 3 || what < 0 || what > 3) {
                return NONE;
            }
            ModelRecipe recipe = recipes.get(r);
            long[] answers = {recipe.count, recipe.volts, recipe.pulses, recipe.worked};
            return (int) Math.min(1000000, answers[what]);
        }

        private List<int[]> part(ModelChip c, int f, int w) {
            List<int[]> pairs = new ArrayList<>();
            int from = f;
            for (int a : c.logical()) {
                if (from <= 255) {
                    pairs.add(new int[] {a, from});
                }
                from += w;
            }
            return pairs;
        }

        private boolean noPart(int n, int f, int w) {
            return at(n) == null || f < 0 || f > 255 || w < 1 || w > 8;
        }

        int why(int n, int r, int id, int f, int w) {
            if (noPart(n, f, w) || r < 0 || r > 3 || id < 0 || id > 255) {
                return NONE;
            }
            ModelChip c = at(n);
            ModelRecipe recipe = recipes.get(r);
            if (!c.lacking.isEmpty()) {
                return 1;
            }
            if (c.id != id) {
                return 2;
            }
            if (recipe.volts > c.most || recipe.pulses > c.bears || recipe.worked > 5000) {
                return 3;
            }
            for (int[] pair : part(c, f, w)) {
                int want = image[pair[1]];
                if ((~c.low[pair[0]] & want) != 0 || (~c.high[pair[0]] & want) != 0) {
                    return 4;
                }
            }
            return 0;
        }

        int burn(int n, int r, int id, int f, int w, int pulses) {
            if (pulses < 0 || pulses > 100000 || why(n, r, id, f, w) != 0) {
                return NONE;
            }
            ModelChip c = at(n);
            left = pulses;
            try {
                for (int[] pair : part(c, f, w)) {
                    int want = image[pair[1]];
                    if (!right(c, pair[0], want)) {
                        volts = 0;
                        ok = false;
                        work(c, recipes.get(r).steps, pair[0], want);
                    }
                }
            } catch (BrokenOff e) {
                return pulses;
            }
            return pulses - left;
        }

        private void work(ModelChip c, List<Node> steps, int a, int want) throws BrokenOff {
            for (Node node : steps) {
                switch (node.word) {
                    case "volt":
                        volts = node.number;
                        break;
                    case "pulse":
                        for (int i = 0; i < node.number; i++) {
                            pulse(c, a, want);
                        }
                        break;
                    case "verify":
                        ok = right(c, a, want);
                        break;
                    case "try":
                        int times = 0;
                        while (!ok && times < node.number) {
                            work(c, node.first, a, want);
                            times++;
                        }
                        break;
                    default:
                        work(c, ok ? node.first : node.others, a, want);
                        break;
                }
            }
        }

        private void pulse(ModelChip c, int a, int d) throws BrokenOff {
            if (left == 0) {
                throw new BrokenOff();
            }
            left--;
            c.pulses++;
            if (volts < c.least) {
                return;
            }
            if (c.data[a] == null || c.data[a] != d) {
                c.data[a] = d;
                c.count[a] = 0;
            }
            c.count[a]++;
            if (c.count[a] >= c.need[a]) {
                c.low[a] = c.low[a] & d;
            }
            if (c.count[a] >= c.need[a] + c.extra) {
                c.high[a] = c.high[a] & d;
            }
        }

        private boolean right(ModelChip c, int a, int want) {
            return c.low[a] == want && c.high[a] == want;
        }

        int wrong(int n, int f, int w) {
            if (noPart(n, f, w)) {
                return NONE;
            }
            ModelChip c = at(n);
            return (int) part(c, f, w).stream().filter(p -> !right(c, p[0], image[p[1]])).count();
        }

        int read(int n, boolean high, int f, int w) {
            if (noPart(n, f, w)) {
                return NONE;
            }
            ModelChip c = at(n);
            List<int[]> pairs = part(c, f, w);
            for (int[] pair : pairs) {
                image[pair[1]] = high ? c.high[pair[0]] : c.low[pair[0]];
            }
            return pairs.size();
        }
    }
}
