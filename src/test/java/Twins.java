import java.util.ArrayList;
import java.util.List;

/**
 * Tells whether a call leaves all as it was. Two new objects get the same calls, one of them that call too; then both are
 * asked the same, and must answer the same. All that can be asked is more than the 512 calls of an object, so each kind of
 * question is put to a new pair.
 */
final class Twins {
    /** Calls that bring an object to where the test begins. */
    interface Setup {
        void on(ChipBurner x);
    }

    /** The call that is looked at; a boolean counts 1 or 0. */
    interface Call {
        long on(ChipBurner x);
    }

    /** Questions of one kind, with what was answered. */
    private interface Questions {
        void ask(ChipBurner x, List<Long> answers);
    }

    private Twins() {
    }

    static long bit(boolean it) {
        return it ? 1 : 0;
    }

    /** The call answers what is due, and nothing can be seen of it afterwards. */
    static void leavesAll(String name, Setup setup, Call call, long due) {
        ChipBurner x = new ChipBurner();
        setup.on(x);
        Check.due(name, call.on(x), due);
        Setup with = y -> {
            setup.on(y);
            call.on(y);
        };
        same(name, setup, with);
        compare(name + ", the FAULT", setup, with, Twins::askFaults);
        compare(name + ", the tape", setup, with, Twins::askTape);
    }

    /** Two ways that must lead to the same, but for the tape and the latest FAULT. */
    static void same(String name, Setup one, Setup other) {
        compare(name + ", the IMAGE", one, other, Twins::askImage);
        compare(name + ", RECIPES", one, other, Twins::askRecipes);
        for (int c = 0; c < 4; c++) {
            int chip = c;
            compare(name + ", CHIP " + c, one, other, (x, answers) -> askChip(x, chip, answers));
            compare(name + ", CHIP " + c + " used on", one, other, (x, answers) -> useChip(x, chip, answers));
        }
    }

    private static void compare(String name, Setup one, Setup other, Questions questions) {
        Check.due(name, answersOf(other, questions).toString(), answersOf(one, questions).toString());
    }

    private static List<Long> answersOf(Setup setup, Questions questions) {
        ChipBurner x = new ChipBurner();
        setup.on(x);
        List<Long> answers = new ArrayList<>();
        questions.ask(x, answers);
        return answers;
    }

    private static void askTape(ChipBurner x, List<Long> answers) {
        answers.add((long) x.about(1));
        for (int i = 0; i < 400; i++) {
            answers.add((long) x.tape(i));
        }
    }

    private static void askFaults(ChipBurner x, List<Long> answers) {
        answers.add((long) x.fault(0));
        answers.add((long) x.fault(1));
    }

    private static void askImage(ChipBurner x, List<Long> answers) {
        answers.add((long) x.about(2));
        for (int a = 0; a < 256; a++) {
            answers.add((long) x.image(a));
        }
    }

    private static void askRecipes(ChipBurner x, List<Long> answers) {
        answers.add((long) x.about(0));
        for (int r = 0; r < 4; r++) {
            for (int what = 0; what < 4; what++) {
                answers.add((long) x.walk(r, what));
            }
        }
    }

    private static void askChip(ChipBurner x, int c, List<Long> answers) {
        for (int what = 0; what < 5; what++) {
            answers.add((long) x.chipOf(c, what));
        }
        for (int row = 1; row <= 5; row++) {
            for (int a = 0; a < 64; a++) {
                answers.add((long) x.chipOf(c, 100 * row + a));
            }
        }
    }

    /** What no question tells is seen by use: each PIN, the ID, what the CHIP bears, DATA, the STEPS of the RECIPES, LIFE. */
    private static void useChip(ChipBurner x, int c, List<Long> answers) {
        for (int n = 0; n < 4; n++) {
            int pin = x.chipOf(c, 2);
            answers.add((long) pin);
            answers.add(bit(x.contact(c, pin, true)));
        }
        for (int r = 0; r < 4; r++) {
            for (int id = 40; id < 45; id++) {
                answers.add((long) x.why(c, r, id, 0, 1));
            }
            answers.add((long) x.burn(c, r, 40 + c, 0, 1, 11));
            askSome(x, c, answers);
            x.erase(c);
            x.fill(0x18);
            answers.add((long) x.burn(c, r, 40 + c, 0, 1, 100000));
            askSome(x, c, answers);
        }
        for (int n = 0; n < 3; n++) {
            answers.add((long) x.erase(c));
            answers.add((long) x.chipOf(c, 300));
        }
    }

    private static void askSome(ChipBurner x, int c, List<Long> answers) {
        answers.add((long) x.chipOf(c, 4));
        for (int a = 0; a < 6; a++) {
            answers.add((long) x.chipOf(c, 100 + a));
            answers.add((long) x.chipOf(c, 200 + a));
            answers.add((long) x.chipOf(c, 400 + a));
        }
    }
}
