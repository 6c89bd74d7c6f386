/** What the tests share: answers compared with those that are due, and texts put on the tape. */
final class Check {
    private static int answers = 0;
    private static int wrong = 0;
    private static String sentence = "";
    private static final long PATIENCE = 300_000;

    // A call that does not end must fail the test, not hold it up for good.
    static {
        Thread watch = new Thread(Check::stopWhenTooLong);
        watch.setDaemon(true);
        watch.start();
    }

    private Check() {
    }

    private static void stopWhenTooLong() {
        try {
            Thread.sleep(PATIENCE);
        } catch (InterruptedException e) {
            return;
        }
        System.out.println("it does not end\n    by: " + sentence);
        Runtime.getRuntime().halt(1);
    }

    /** What the document says, that the answers from here on are due by; told with each that is not. */
    static void sentence(String words) {
        sentence = words;
    }

    private static void tell(String what) {
        wrong++;
        System.out.println(sentence.isEmpty() ? what : what + "\n    by: " + sentence);
    }

    static void due(String call, long got, long want) {
        answers++;
        if (got != want) {
            tell(call + " answered " + got + ", due is " + want);
        }
    }

    static void due(String call, boolean got, boolean want) {
        due(call, got ? 1 : 0, want ? 1 : 0);
    }

    static void due(String call, String got, String want) {
        answers++;
        if (!got.equals(want)) {
            tell(call + " answered\n" + got + "due is\n" + want);
        }
    }

    static boolean anyWrong() {
        return wrong > 0;
    }

    /** The tape has this text alone then; its characters are 0 to 255. */
    static void load(ChipBurner x, String text) {
        due("end(0)", x.end(0), 0);
        int fed = 0;
        for (int i = 0; i < text.length(); i += 20) {
            fed += 20;
            due("feed", x.feed(four(text, i), four(text, i + 4), four(text, i + 8), four(text, i + 12),
                four(text, i + 16)), fed);
        }
        due("end", x.end(text.length()), text.length());
    }

    private static int four(String text, int i) {
        int word = 0;
        for (int k = 0; k < 4; k++) {
            word = word << 8 | (i + k < text.length() ? text.charAt(i + k) & 255 : 0);
        }
        return word;
    }

    /** What the tape has; a call for each byte and one more, and it ends even if the tape's bytes do not. */
    static String tapeOf(ChipBurner x) {
        StringBuilder text = new StringBuilder();
        for (int b = x.tape(0); b != ChipBurner.NONE && text.length() <= 400; b = x.tape(text.length())) {
            text.append((char) b);
        }
        return text.toString();
    }

    /** A text is read as a file, and what is found is looked at. */
    static void file(ChipBurner x, int form, String text, int answer, int fault, int place) {
        load(x, text);
        String call = "file(" + form + ") of " + shown(text);
        due(call, x.file(form), answer);
        due(call + ", fault(0)", x.fault(0), fault);
        due(call + ", fault(1)", x.fault(1), place);
        due(call + ", about(1)", x.about(1), 0);
    }

    static void recipe(ChipBurner x, int r, String text, int answer, int fault, int place) {
        load(x, text);
        String call = "recipe(" + r + ") of " + shown(text);
        due(call, x.recipe(r), answer);
        due(call + ", fault(0)", x.fault(0), fault);
        due(call + ", fault(1)", x.fault(1), place);
        due(call + ", about(1)", x.about(1), 0);
    }

    static String shown(String text) {
        return "'" + text.replace("\r", "\\r").replace("\n", "\\n") + "'";
    }

    static void finish() {
        System.out.println(answers + " answers, " + wrong + " not as due");
        if (wrong > 0 || answers == 0) {
            System.exit(1);
        }
    }
}
