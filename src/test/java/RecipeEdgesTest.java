import java.util.List;

/** The sentences of 'Terms' III about RECIPES and WAYS, and of promises 16 and 17, that name a boundary, one test for each. */
public final class RecipeEdgesTest {
    private static final int NONE = ChipBurner.NONE;
    private static final int MAX = Integer.MAX_VALUE;
    private static final int MIN = Integer.MIN_VALUE;

    public static void main(String[] args) {
        upTo200Bytes();
        blanks();
        letters();
        digitsOneBehindTheOther();
        bytesThatAreNoToken();
        wordsOfSteps();
        whatMayStandWhere();
        atTheLength();
        firstAsTokensAreComeTo();
        numbersOfVolt();
        numbersOfPulse();
        numbersOfTry();
        longNumbers();
        fiveOpenSixNot();
        closedOnesAreNotOpen();
        innermostOfFive();
        mostSteps();
        recipes0To3();
        noSuchRecipe();
        formerStays();
        tapeIsEmptyThen();
        nothingOfTheFormerOne();
        stepsCounted();
        mostVolts();
        tryMayEndAtOnce();
        tryComesRoundAgain();
        okEitherWay();
        mostPulses();
        pulsesOfAMillion();
        stepsWorked();
        stepsWorkedOfAMillion();
        walkOfOthers();
        Check.finish();
    }

    private static void good(String text, int steps) {
        Check.recipe(new ChipBurner(), 2, text, steps, 0, NONE);
    }

    private static void faulty(String text, int fault, int place) {
        Check.recipe(new ChipBurner(), 1, text, NONE, fault, place);
    }

    private static void walk(String text, int what, int due) {
        ChipBurner x = new ChipBurner();
        Check.load(x, text);
        Check.due(text + " is read", x.recipe(3) != NONE, true);
        Check.due("walk(3, " + what + ") of " + text, x.walk(3, what), due);
    }

    private static void upTo200Bytes() {
        Check.sentence("texts of up to 200 bytes (more: FAULT 1 at 200)");
        String full = "volt 1;".repeat(28);
        good("", 0);
        good(full, 28);
        good(full + "    ", 28);
        good("    " + full, 28);
        good("volt1;".repeat(32) + "verify; ", 33);
        good(" ".repeat(200), 0);
        good(" ".repeat(190) + "volt    1;", 1);
        faulty(" ".repeat(199) + "x", 1, 199);
        faulty(" ".repeat(196) + "volt", 1, 200);
        for (int length : new int[] {201, 202, 220, 399, 400}) {
            faulty(full + " ".repeat(length - full.length()), 1, 200);
            faulty(" ".repeat(length), 1, 200);
            faulty("\n".repeat(length), 1, 200);
        }
        faulty("    " + full + ";", 1, 200);
        faulty(" ".repeat(194) + "verify;", 1, 200);
        faulty("volt 1;".repeat(57), 1, 200);
    }

    private static void blanks() {
        Check.sentence("TOKENS, blanks (32, 10) aside");
        String[] pieces = {"try", "2", "{", "volt", "3", ";", "ok", "{", "pulse", "4", ";", "}", "else", "{", "verify", ";", "}", "}"};
        for (String blank : new String[] {" ", "\n", "  ", "\n\n", " \n", "\n "}) {
            good(String.join(blank, pieces), 5);
            good(blank + String.join(blank, pieces) + blank, 5);
        }
        good("try2{volt3;ok{pulse4;}else{verify;}}", 5);
        for (int b = 0; b < 256; b++) {
            if (b == ' ' || b == '\n') {
                good("verify;" + (char) b, 1);
                good((char) b + "verify;", 1);
            } else {
                faulty("verify;" + (char) b, 1, 7);
                faulty("verify; " + (char) b, 1, 8);
            }
        }
    }

    private static void letters() {
        Check.sentence("letters a .. z, A .. Z one behind the other");
        for (int b = 0; b < 256; b++) {
            String text = "verify" + (char) b + ";";
            boolean letter = b >= 'a' && b <= 'z' || b >= 'A' && b <= 'Z';
            if (b == ' ' || b == '\n') {
                good(text, 1);
            } else {
                // A letter makes another word of it, which can't stand there; any other byte is a TOKEN of its own or none.
                faulty(text, 1, letter ? 0 : b == ';' ? 7 : 6);
            }
        }
        faulty("ver ify;", 1, 0);
        faulty("verify verify;", 1, 7);
        faulty("voltpulse 1;", 1, 0);
    }

    private static void digitsOneBehindTheOther() {
        Check.sentence("digits one behind the other");
        for (int b = 0; b < 256; b++) {
            String text = "volt 1" + (char) b + ";";
            if (b >= '0' && b <= '9' || b == ' ' || b == '\n') {
                good(text, 1);
            } else {
                faulty(text, 1, b == ';' ? 7 : 6);
            }
        }
        faulty("volt 1 2;", 1, 7);
        faulty("volt 3\n0;", 1, 7);
        faulty("volt 1a;", 1, 6);
        faulty("volt a1;", 1, 5);
        good("volt12;pulse50;try50{}", 3);
    }

    private static void bytesThatAreNoToken() {
        Check.sentence("1 it can't stand there, or is none.");
        for (int b = 0; b < 256; b++) {
            boolean known = b == ' ' || b == '\n' || b == ';' || b == '{' || b == '}' || b >= '0' && b <= '9'
                || b >= 'a' && b <= 'z' || b >= 'A' && b <= 'Z';
            if (!known) {
                faulty(String.valueOf((char) b), 1, 0);
                faulty("volt " + (char) b, 1, 5);
                faulty("try 2{" + (char) b + "}", 1, 6);
                faulty("verify;\n" + (char) b + " volt 99;", 1, 8);
            }
        }
    }

    private static void wordsOfSteps() {
        Check.sentence("STEP: volt NUMBER ; .. or pulse NUMBER ; .. or verify ; or try NUMBER { STEPS } .. or ok { STEPS } else { STEPS }");
        for (String step : new String[] {"volt 1;", "pulse 1;", "verify;", "try 1{}", "ok{}else{}"}) {
            good(step, 1);
            String word = step.replaceAll("[^a-z].*", "");
            String rest = step.substring(word.length());
            faulty(word.substring(0, word.length() - 1) + rest, 1, 0);
            faulty(word.substring(1) + rest, 1, 0);
            faulty(word + "s" + rest, 1, 0);
            faulty(word.toUpperCase() + rest, 1, 0);
            faulty(word.substring(0, 1).toUpperCase() + word.substring(1) + rest, 1, 0);
            faulty(word.substring(0, word.length() - 1) + word.substring(word.length() - 1).toUpperCase() + rest, 1, 0);
        }
        faulty("else{}", 1, 0);
        faulty("ok{}ELSE{}", 1, 4);
        faulty("ok{}els{}", 1, 4);
        faulty("ok{}elses{}", 1, 4);
    }

    /** Texts up to some place, and which TOKENS may stand there; any other one is FAULT 1 at that place. */
    private static void whatMayStandWhere() {
        Check.sentence("FAULTS, the first as TOKENS are come to, at the TOKEN's first byte (of the end at the length): 1 it can't stand there");
        List<String> steps = List.of("volt", "pulse", "verify", "try", "ok");
        String[][] places = {
            {"", "STEP END"}, {"volt", "1"}, {"volt 1", ";"}, {"volt 1;", "STEP END"}, {"pulse", "1"}, {"pulse 1", ";"},
            {"pulse 1;", "STEP END"}, {"verify", ";"}, {"verify;", "STEP END"}, {"try", "1"}, {"try 1", "{"}, {"try 1{", "STEP }"},
            {"try 1{}", "STEP END"}, {"try 1{verify;", "STEP }"}, {"try 1{try 1{}", "STEP }"}, {"ok", "{"}, {"ok{", "STEP }"},
            {"ok{}", "else"}, {"ok{verify;}", "else"}, {"ok{}else", "{"}, {"ok{}else{", "STEP }"}, {"ok{}else{verify;", "STEP }"},
            {"ok{}else{}", "STEP END"}, {"ok{ok{}else{}", "STEP }"}, {"ok{try 1{}}", "else"}, {"ok{}else{ok{}", "else"},
            {"try 1{ok{}", "else"}, {"try 1{ok{}else{}", "STEP }"},
        };
        String[] tokens = {"volt", "pulse", "verify", "try", "ok", "else", "word", "1", "0", "51", ";", "{", "}", "?", ""};
        for (String[] place : places) {
            List<String> may = List.of(place[1].replace("STEP", "volt pulse verify try ok").split(" "));
            for (String token : tokens) {
                boolean number = token.matches("[0-9]+");
                boolean stands = may.contains(token.isEmpty() ? "END" : number ? "1" : token);
                String text = place[0] + " " + token;
                ChipBurner x = new ChipBurner();
                Check.load(x, text);
                int answer = x.recipe(0);
                int at = place[0].length() + 1;
                boolean refusedThere = answer == NONE && x.fault(0) == 1 && x.fault(1) == at;
                Check.due("'" + token + "' behind '" + place[0] + "' is refused", refusedThere, !stands);
                if (stands && steps.contains(token)) {
                    Check.due("what lacks behind " + text, x.fault(1), text.length());
                }
            }
        }
    }

    private static void atTheLength() {
        Check.sentence("(of the end at the length)");
        String[] open = {"volt", "volt 1", "pulse", "pulse 9", "verify", "try", "try 3", "try 3{", "try 3{verify;", "ok", "ok{", "ok{}", "ok{}else", "ok{}else{"};
        for (String text : open) {
            faulty(text, 1, text.length());
            faulty(text + " ", 1, text.length() + 1);
            faulty(text + "\n \n", 1, text.length() + 3);
            faulty(text + " ".repeat(200 - text.length()), 1, 200);
        }
    }

    private static void firstAsTokensAreComeTo() {
        Check.sentence("FAULTS, the first as TOKENS are come to");
        faulty("volt 31 ?", 2, 5);
        faulty("volt ? 31", 1, 5);
        faulty("pulse 0", 2, 6);
        faulty("x volt 31;", 1, 0);
        faulty("volt 31; x", 2, 5);
        faulty("try 51{", 2, 4);
        faulty("try 0 x", 2, 4);
        faulty("try1{".repeat(5) + "x try1{", 1, 25);
        faulty("try1{".repeat(5) + "try x", 3, 25);
        faulty("try1{".repeat(5) + "try 0", 3, 25);
        faulty("try1{".repeat(5) + "ok x", 3, 25);
        faulty("try1{".repeat(5) + "volt 31;", 2, 30);
        faulty("volt 99;" + "try1{".repeat(6), 2, 5);
    }

    /** Each NUMBER from 0 to 100, and some beyond: those from low to high are taken, and no other. */
    private static void numbers(String ahead, String behind, int low, int high) {
        for (int n = 0; n <= 100; n++) {
            if (n >= low && n <= high) {
                good(ahead + n + behind, 1);
            } else {
                faulty(ahead + n + behind, 2, ahead.length());
            }
        }
        for (String n : new String[] {"127", "128", "255", "256", "257", "300", "999", "1000", "1001", "10000", "65536", "65537"}) {
            faulty(ahead + n + behind, 2, ahead.length());
        }
    }

    private static void numbersOfVolt() {
        Check.sentence("volt NUMBER ; (0 .. 30); 2 a NUMBER that isn't one of those told.");
        numbers("volt ", ";", 0, 30);
    }

    private static void numbersOfPulse() {
        Check.sentence("pulse NUMBER ; (1 .. 50); 2 a NUMBER that isn't one of those told.");
        numbers("pulse ", ";", 1, 50);
    }

    private static void numbersOfTry() {
        Check.sentence("try NUMBER { STEPS } (1 .. 50); 2 a NUMBER that isn't one of those told.");
        numbers("try ", "{}", 1, 50);
    }

    private static void longNumbers() {
        Check.sentence("2 a NUMBER that isn't one of those told. (however long)");
        String[] numbers = {
            "2147483647", "2147483648", "2147483649", "4294967296", "4294967297", "4294967301", "9223372036854775808",
            "18446744073709551616", "18446744073709551617", "99999999999999999999999999999999", "1" + "0".repeat(150), "1" + "0".repeat(32) + "1",
        };
        for (String n : numbers) {
            faulty("volt " + n + ";", 2, 5);
            faulty("pulse " + n + ";", 2, 6);
            faulty("try " + n + "{}", 2, 4);
        }
        faulty("volt " + "9".repeat(195), 2, 5);
        faulty("volt " + "9".repeat(196), 1, 200);
    }

    private static void fiveOpenSixNot() {
        Check.sentence("3 .. the 6th try or ok that are open around one another (at its word)");
        // Each of the six is a try, or an ok with the next one in its first STEPS, or in its others.
        String[] openings = {"try1{", "ok{", "ok{}else{"};
        String[] closings = {"}", "}else{}", "}"};
        for (int mix = 0; mix < 729; mix++) {
            StringBuilder text = new StringBuilder();
            StringBuilder closing = new StringBuilder();
            int rest = mix;
            for (int open = 0; open < 5; open++) {
                text.append(openings[rest % 3]);
                closing.insert(0, closings[rest % 3]);
                rest /= 3;
            }
            if (mix < 243) {
                good(text.toString() + closing, 5);
                good(text + "verify;" + closing, 6);
            }
            faulty(text + openings[rest % 3] + closings[rest % 3] + closing, 3, text.length());
            faulty(text + " " + openings[rest % 3], 3, text.length() + 1);
        }
    }

    private static void closedOnesAreNotOpen() {
        Check.sentence("3 .. that are open around one another");
        String five = "try1{try1{try1{try1{try1{}}}}}";
        good(five + five + five, 15);
        good("try1{".repeat(4) + "try1{}try1{}ok{}else{}try1{}" + "}".repeat(4), 8);
        good("ok{" + "try1{".repeat(4) + "}".repeat(4) + "}else{" + "try1{".repeat(4) + "}".repeat(4) + "}", 9);
        faulty("ok{" + "try1{".repeat(4) + "}".repeat(4) + "}else{" + "try1{".repeat(5), 3, 53);
        faulty("try1{".repeat(4) + "try1{}try1{}ok{}else{}try1{try1{", 3, 47);
        faulty(five + "try1{".repeat(6), 3, five.length() + 25);
    }

    private static void innermostOfFive() {
        Check.sentence("WAYS: each ok may go either way, each try end ahead of any time (with five open around one another)");
        String inside = "volt 21;pulse 3;verify;";
        String[] fives = {
            "try 1{".repeat(5) + inside + "}".repeat(5), "ok{".repeat(5) + inside + "}else{}".repeat(5),
            "ok{}else{".repeat(5) + inside + "}".repeat(5), "try 1{ok{ok{}else{try 1{ok{" + inside + "}else{}}}}else{}}",
        };
        for (String five : fives) {
            walk(five, 0, 8);
            walk(five, 1, 21);
            walk(five, 2, 3);
            walk(five, 3, 8);
            // What is set in there is there behind it too.
            walk(five + "pulse 1;", 1, 21);
            walk("pulse 1;" + five.replace("pulse 3;", ""), 1, 0);
            walk(five.replace("pulse 3;", "") + "pulse 1;", 1, 21);
        }
        walk("try 2{".repeat(5) + inside + "}".repeat(5), 2, 96);
        walk("try 2{".repeat(5) + inside + "}".repeat(5), 3, 1 + 2 + 4 + 8 + 16 + 32 * 3);
    }

    private static void mostSteps() {
        Check.sentence("3 the 41st STEP (at its word)");
        // No STEP is shorter than six bytes, so in 200 bytes there is no 41st one to be refused; as many as there can be are taken.
        good("volt1;".repeat(33), 33);
        good("try1{}".repeat(33), 33);
        good("try1{".repeat(5) + "volt1;".repeat(28) + "}".repeat(5), 33);
        good("ok{}else{}".repeat(20), 20);
        faulty("volt1;".repeat(33) + "vo", 1, 198);
        faulty("volt1;".repeat(40), 1, 200);
        faulty("volt1;".repeat(41), 1, 200);
    }

    private static void recipes0To3() {
        Check.sentence("RECIPES 0 .. 3; The tape (empty then) is RECIPE r: how many STEPS.");
        ChipBurner x = new ChipBurner();
        for (int r = 0; r < 4; r++) {
            Check.recipe(x, r, "verify;".repeat(r + 1), r + 1, 0, NONE);
            for (int other = 0; other < 4; other++) {
                Check.due("walk(" + other + ", 0)", x.walk(other, 0), other <= r ? other + 1 : 0);
            }
        }
    }

    private static void noSuchRecipe() {
        Check.sentence("or (the tape stays) there is no such RECIPE.");
        for (int r : new int[] {-1, 4, 5, 256, MAX, MIN}) {
            ChipBurner x = new ChipBurner();
            Check.recipe(x, 0, "volt 31;", NONE, 2, 5);
            Check.load(x, "verify;");
            Check.due("recipe(" + r + ")", x.recipe(r), NONE);
            Check.due("the tape", Check.tapeOf(x), "verify;");
            Check.due("fault(0)", x.fault(0), 2);
            Check.due("fault(1)", x.fault(1), 5);
            for (int known = 0; known < 4; known++) {
                Check.due("walk(" + known + ", 0)", x.walk(known, 0), 0);
            }
        }
    }

    private static void formerStays() {
        Check.sentence("NONE: it has a FAULT, the former one stays");
        String[] faulty = {
            "?", "volt 20;pulse 9;?", "volt 20;pulse 51;", "try 2{pulse 9;", "pulse 9;" + "try1{".repeat(6), " ".repeat(201),
            "volt 20;pulse 9;ok{pulse 1;}", "volt 20;pulse 9;}",
        };
        for (String text : faulty) {
            for (int r = 0; r < 4; r++) {
                ChipBurner x = new ChipBurner();
                x.chip(8, 7, true, 10, 20, 200, 0, 0);
                Check.recipe(x, r, "volt 12;try 3{pulse 2;verify;}", 4, 0, NONE);
                Check.load(x, text);
                Check.due("recipe(" + r + ")", x.recipe(r), NONE);
                int[] due = {4, 12, 6, 8};
                for (int what = 0; what < 4; what++) {
                    Check.due("walk(" + r + ", " + what + ") behind " + text, x.walk(r, what), due[what]);
                }
                // It works as it did: two pulses, a verify, and two more.
                Check.file(x, 0, "\u0001", 1, 0, NONE);
                Check.due("burn", x.burn(0, r, 7, 0, 1, 100), 4);
                Check.due("wrong", x.wrong(0, 0, 1), 0);
                Check.recipe(x, r, "", 0, 0, NONE);
                Check.due("walk(" + r + ", 1)", x.walk(r, 1), NONE);
            }
        }
    }

    private static void tapeIsEmptyThen() {
        Check.sentence("The tape (empty then) is RECIPE r");
        for (String text : new String[] {"verify;", "?", "x".repeat(300), ""}) {
            ChipBurner x = new ChipBurner();
            Check.load(x, text);
            x.recipe(0);
            Check.due("about(1)", x.about(1), 0);
            Check.due("tape(0)", x.tape(0), NONE);
            Check.due("recipe of nothing", x.recipe(0), 0);
            Check.due("walk(0, 0)", x.walk(0, 0), 0);
            Check.due("fault(0)", x.fault(0), 0);
        }
    }

    private static void nothingOfTheFormerOne() {
        Check.sentence("The tape (empty then) is RECIPE r (and nothing of the former one is left)");
        String[] texts = {
            "try 9{volt 29;ok{pulse 40;}else{verify;}}", "volt 5;pulse 1;pulse 2;verify;pulse 4;", "verify;", "ok{}else{pulse 3;}",
            "pulse 1;ok{verify;verify;}else{}volt 30;", "",
        };
        int[][] due = {{5, 29, 360, 28}, {5, 5, 7, 5}, {1, NONE, 0, 1}, {2, 0, 3, 2}, {5, 0, 1, 5}, {0, NONE, 0, 0}};
        for (int first = 0; first < texts.length; first++) {
            for (int second = 0; second < texts.length; second++) {
                ChipBurner x = new ChipBurner();
                for (int n = 0; n < 6; n++) {
                    int which = n % 2 == 0 ? first : second;
                    Check.recipe(x, n % 4 == 3 ? 1 : 0, texts[which], due[which][0], 0, NONE);
                    for (int what = 0; what < 4; what++) {
                        Check.due("walk " + what + " of " + texts[which], x.walk(n % 4 == 3 ? 1 : 0, what), due[which][what]);
                    }
                }
            }
        }
    }

    private static void stepsCounted() {
        Check.sentence("Of a RECIPE: 0 STEPS");
        walk("", 0, 0);
        walk("verify;", 0, 1);
        walk("try 50{}", 0, 1);
        walk("try 50{verify;}", 0, 2);
        walk("ok{verify;}else{verify;verify;}", 0, 4);
        walk("ok{}else{}", 0, 1);
        walk("try 2{ok{try 3{volt 1;}}else{pulse 1;}}verify;", 0, 6);
    }

    private static void mostVolts() {
        Check.sentence("1 the most volts of a pulse on any WAY (NONE without a pulse); volts 0 at first; volt sets them");
        walk("", 1, NONE);
        walk("volt 30;verify;try 2{volt 30;}", 1, NONE);
        walk("pulse 1;", 1, 0);
        walk("pulse 1;volt 30;", 1, 0);
        walk("volt 0;pulse 1;", 1, 0);
        walk("volt 1;pulse 1;", 1, 1);
        walk("volt 30;pulse 1;", 1, 30);
        walk("volt 30;volt 29;pulse 1;", 1, 29);
        walk("volt 30;pulse 1;volt 29;pulse 1;", 1, 30);
        walk("volt 29;pulse 1;volt 30;pulse 1;volt 1;", 1, 30);
    }

    private static void tryMayEndAtOnce() {
        Check.sentence("each try end ahead of any time (at once, too)");
        walk("volt 30;try 1{volt 1;}pulse 1;", 1, 30);
        walk("volt 1;try 1{volt 30;}pulse 1;", 1, 30);
        walk("volt 30;try 50{volt 1;pulse 1;}", 1, 1);
        walk("volt 30;try 2{try 2{volt 1;}pulse 1;}", 1, 30);
        // Ended ahead of the third time, it has the second one's volts.
        walk("try 3{ok{volt 9;}else{}pulse 1;volt 2;}", 1, 9);
        walk("try 9{ok{pulse 1;}else{}volt 7;}volt 3;pulse 1;", 1, 7);
    }

    private static void tryComesRoundAgain() {
        Check.sentence("try: its STEPS so many times");
        walk("try 1{pulse 1;volt 30;}", 1, 0);
        walk("try 2{pulse 1;volt 30;}", 1, 30);
        walk("try 1{try 2{pulse 1;volt 30;}}", 1, 30);
        walk("try 2{try 1{pulse 1;volt 30;}}", 1, 30);
        walk("try 1{try 1{pulse 1;volt 30;}}", 1, 0);
        walk("try 1{try 1{pulse 1;volt 30;}}try 1{pulse 1;}", 1, 30);
        // What a time sets is kept by the next one only where nothing else is set.
        walk("try 2{volt 5;pulse 1;volt 30;}", 1, 5);
        walk("try 2{ok{volt 5;}else{}pulse 1;volt 30;}", 1, 30);
        walk("try 50{pulse 1;}", 2, 50);
        walk("try 50{try 50{pulse 1;}}", 2, 2500);
    }

    private static void okEitherWay() {
        Check.sentence("each ok may go either way");
        walk("ok{volt 30;}else{volt 1;}pulse 1;", 1, 30);
        walk("ok{volt 1;}else{volt 30;}pulse 1;", 1, 30);
        walk("volt 30;ok{volt 1;}else{volt 2;}pulse 1;", 1, 2);
        walk("volt 30;ok{}else{volt 2;}pulse 1;", 1, 30);
        walk("volt 30;ok{volt 2;}else{}pulse 1;", 1, 30);
        // The first STEPS' volts are not those that the others begin with.
        walk("ok{volt 30;}else{pulse 1;}", 1, 0);
        walk("ok{pulse 1;}else{volt 30;}", 1, 0);
        walk("ok{pulse 7;}else{pulse 8;}", 2, 8);
        walk("ok{pulse 8;}else{pulse 7;}", 2, 8);
        walk("ok{verify;}else{}", 3, 2);
        walk("ok{}else{verify;}", 3, 2);
        // Two that follow one another need not go the same way.
        walk("ok{pulse 9;}else{pulse 1;}ok{pulse 1;}else{pulse 9;}", 2, 18);
        // The most pulses and the most STEPS may be on two WAYS.
        walk("ok{pulse 9;}else{verify;verify;}", 2, 9);
        walk("ok{pulse 9;}else{verify;verify;}", 3, 3);
    }

    private static void mostPulses() {
        Check.sentence("2 the most pulses");
        walk("", 2, 0);
        walk("volt 3;verify;try 50{}", 2, 0);
        walk("pulse 1;", 2, 1);
        walk("pulse 50;pulse 50;", 2, 100);
        walk("try 3{pulse 2;}pulse 1;", 2, 7);
        walk("try 3{pulse 2;try 4{pulse 5;}}", 2, 66);
        walk("try 3{ok{pulse 2;}else{try 4{pulse 5;}}}", 2, 60);
    }

    private static void pulsesOfAMillion() {
        Check.sentence("(2 and 3: 1000000 if more), of pulses");
        String under = "try 50{try 50{try 49{pulse 8;}}}try 50{try 8{pulse 49;}}try 19{pulse 21;}";
        walk(under, 2, 999999);
        walk(under + "pulse 1;", 2, 1000000);
        walk(under + "pulse 2;", 2, 1000000);
        walk(under + "pulse 3;", 2, 1000000);
        walk("try 50{try 50{try 50{pulse 8;}}}", 2, 1000000);
        walk("try 50{try 50{try 50{pulse 9;}}}", 2, 1000000);
        walk("try 50{".repeat(5) + "pulse 50;".repeat(17) + "}".repeat(5), 2, 1000000);
        // 2 to the 32nd and some more, so that an int would have come round.
        walk("try 32{try 32{try 32{try 32{try 32{pulse 50;pulse 50;pulse 28;pulse 1;}}}}}", 2, 1000000);
        walk("try 16{try 32{try 32{try 32{try 32{pulse 50;pulse 50;pulse 28;}}}}}", 2, 1000000);
    }

    private static void stepsWorked() {
        Check.sentence("3 the most STEPS worked (each time that one is: one; try and ok too)");
        walk("", 3, 0);
        walk("verify;", 3, 1);
        walk("pulse 50;", 3, 1);
        walk("try 50{}", 3, 1);
        walk("try 50{verify;}", 3, 51);
        walk("try 3{try 4{volt 1;pulse 2;}}", 3, 1 + 3 * (1 + 4 * 2));
        walk("ok{}else{}", 3, 1);
        walk("try 2{ok{verify;}else{}}", 3, 1 + 2 * 2);
    }

    private static void stepsWorkedOfAMillion() {
        Check.sentence("(2 and 3: 1000000 if more), of STEPS worked");
        // 1 + 50 + 2500 + 7 * 125000, then 1 + 47 + 2350 + 117500, then 2501 and 49.
        String seven = "try 50{try 50{try 50{" + "volt1;".repeat(7) + "}}}";
        String under = seven + "try 47{try 50{try 50{verify;}}}try 50{try 49{verify;}}try 48{verify;}";
        walk(under, 3, 999999);
        walk(under + "verify;", 3, 1000000);
        walk(under + "verify;verify;", 3, 1000000);
        walk(seven + "try 48{try 50{try 50{verify;}}}", 3, 1000000);
        walk(seven + "try 48{try 50{try 50{verify;}}}verify;", 3, 1000000);
        walk("try 50{".repeat(5) + "volt1;".repeat(26) + "}".repeat(5), 3, 1000000);
        walk("try 50{".repeat(5) + "volt1;".repeat(26) + "}".repeat(5), 2, 0);
    }

    private static void walkOfOthers() {
        Check.sentence("Of a RECIPE: 0 STEPS, .. 3 the most STEPS worked .. NONE for others.");
        ChipBurner x = new ChipBurner();
        for (int r = 0; r < 4; r++) {
            Check.recipe(x, r, "volt 5;pulse 6;", 2, 0, NONE);
            int[] due = {2, 5, 6, 2};
            for (int what = 0; what < 4; what++) {
                Check.due("walk(" + r + ", " + what + ")", x.walk(r, what), due[what]);
            }
            for (int what : new int[] {-1, 4, 5, MAX, MIN}) {
                Check.due("walk(" + r + ", " + what + ")", x.walk(r, what), NONE);
            }
        }
        for (int r : new int[] {-1, 4, 5, MAX, MIN}) {
            for (int what = -1; what <= 4; what++) {
                Check.due("walk(" + r + ", " + what + ")", x.walk(r, what), NONE);
            }
        }
    }
}
