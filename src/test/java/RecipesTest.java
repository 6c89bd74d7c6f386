/** Promises 16 and 17 (and 5, of RECIPES): their language, its FAULTS, and the walk on all WAYS. */
public final class RecipesTest {
    private static final int NONE = ChipBurner.NONE;

    public static void main(String[] args) {
        texts();
        faultsOfPlace();
        faultsOfNumbers();
        faultsOfMany();
        formerStays();
        readOverAndOver();
        noSuchRecipe();
        voltsOfWays();
        pulsesAndStepsOfWays();
        capped();
        Check.finish();
    }

    private static void good(String text, int steps) {
        Check.recipe(new ChipBurner(), 2, text, steps, 0, NONE);
    }

    private static void faulty(String text, int fault, int place) {
        Check.recipe(new ChipBurner(), 1, text, NONE, fault, place);
    }

    private static void walk(String text, int volts, int pulses, int worked) {
        ChipBurner x = new ChipBurner();
        Check.load(x, text);
        int steps = x.recipe(3);
        Check.due("steps of " + text, x.walk(3, 0), steps);
        Check.due("volts of " + text, x.walk(3, 1), volts);
        Check.due("pulses of " + text, x.walk(3, 2), pulses);
        Check.due("steps worked of " + text, x.walk(3, 3), worked);
    }

    private static void texts() {
        good("", 0);
        good(" \n \n", 0);
        good("verify;", 1);
        good("verify ; ", 1);
        good("\nverify\n;\n", 1);
        good("volt0;", 1);
        good("volt 0;volt 30;", 2);
        good("volt 00000000000000000000000000030;", 1);
        good("pulse 1;pulse 50;", 2);
        good("try 1{}try 50 { }", 2);
        good("ok{}else{}", 1);
        good("ok { verify ; } else { pulse 2 ; volt 3 ; }", 4);
        good("try 2{ok{try 3{verify;}}else{}}verify;", 5);
        good("volt\n12\n;\nok\n{\n}\nelse\n{\n}\n", 2);
        good("verify;".repeat(28) + "    ", 28);
        good("volt1;".repeat(33) + "  ", 33);
        good(" ".repeat(200), 0);
        good(" ".repeat(193) + "verify;", 1);
        good("try1{".repeat(5) + "}".repeat(5), 5);
        good("ok{}else{".repeat(5) + "}".repeat(5), 5);
        good("ok{".repeat(5) + "}else{}".repeat(5), 5);
        good("try1{".repeat(5) + "}".repeat(5) + "try1{".repeat(5) + "}".repeat(5), 10);
        good("ok{try1{ok{try1{ok{}else{}}}else{}}}else{try1{try1{try1{try1{}}}}}", 9);
    }

    private static void faultsOfPlace() {
        faulty("x", 1, 0);
        faulty("  Verify;", 1, 2);
        faulty("VERIFY;", 1, 0);
        faulty("verif;", 1, 0);
        faulty("verifyy;", 1, 0);
        faulty("verifyverify;", 1, 0);
        faulty("vol t 1;", 1, 0);
        faulty("volts 1;", 1, 0);
        faulty("OK{}else{}", 1, 0);
        faulty("else{}", 1, 0);
        faulty(";", 1, 0);
        faulty("verify;;", 1, 7);
        faulty("{verify;}", 1, 0);
        faulty("}", 1, 0);
        faulty("verify;}", 1, 7);
        faulty("12;", 1, 0);
        faulty("verify", 1, 6);
        faulty("verify  ", 1, 8);
        faulty("verify 1;", 1, 7);
        faulty("verify}", 1, 6);
        faulty("volt", 1, 4);
        faulty("volt;", 1, 4);
        faulty("volt x;", 1, 5);
        faulty("volt -1;", 1, 5);
        faulty("volt 1", 1, 6);
        faulty("volt 1 2;", 1, 7);
        faulty("volt 1x;", 1, 6);
        faulty("volt 1{}", 1, 6);
        faulty("pulse;", 1, 5);
        faulty("pulse 1}", 1, 7);
        faulty("try{}", 1, 3);
        faulty("try 2;", 1, 5);
        faulty("try 2 verify;", 1, 6);
        faulty("try 2{", 1, 6);
        faulty("try 2{verify;", 1, 13);
        faulty("try 2{}}", 1, 7);
        faulty("try 2{};", 1, 7);
        faulty("try 2{}else{}", 1, 7);
        faulty("ok 1{}else{}", 1, 3);
        faulty("ok;", 1, 2);
        faulty("ok{}", 1, 4);
        faulty("ok{} verify;", 1, 5);
        faulty("ok{}}", 1, 4);
        faulty("ok{}Else{}", 1, 4);
        faulty("ok{}else", 1, 8);
        faulty("ok{}else;", 1, 8);
        faulty("ok{}else verify;", 1, 9);
        faulty("ok{}else{", 1, 9);
        faulty("ok{else{}", 1, 3);
        faulty("ok{}else{}else{}", 1, 10);
        faulty("verify;\tverify;", 1, 7);
        faulty("verify;\r\n", 1, 7);
        faulty("verify;\u0000", 1, 7);
        faulty("verify;\u00ff", 1, 7);
        faulty("verify;\u00e4", 1, 7);
        faulty("verify_;", 1, 6);
        String[] letters = {"a", "z", "A", "Z"};
        for (String letter : letters) {
            faulty("verify" + letter + ";", 1, 0);
        }
        String[] beside = {"`", "{", "@", "[", "/", ":"};
        for (String sign : beside) {
            faulty("verify" + sign + ";", 1, 6);
        }
        faulty("volt 3?", 1, 6);
        faulty("@`[/:", 1, 0);
        // What is further behind is not come to.
        faulty("x volt 99;", 1, 0);
        faulty("verify;".repeat(28) + "volt", 1, 200);
        faulty(" ".repeat(201), 1, 200);
        faulty("verify;".repeat(28) + "     ", 1, 200);
        faulty(" ".repeat(400), 1, 200);
    }

    private static void faultsOfNumbers() {
        faulty("volt 31;", 2, 5);
        faulty("volt 31", 2, 5);
        faulty("volt 300;", 2, 5);
        faulty("pulse 0;", 2, 6);
        faulty("pulse 000;", 2, 6);
        faulty("pulse 51;", 2, 6);
        faulty("try 0{}", 2, 4);
        faulty("try 51{}", 2, 4);
        faulty("try51?", 2, 3);
        faulty("volt 4294967296;", 2, 5);
        faulty("volt 18446744073709551617;", 2, 5);
        faulty("pulse " + "9".repeat(190) + ";", 2, 6);
        faulty("verify;\n pulse\n 51;", 2, 16);
        faulty("try 2{volt 99;}", 2, 11);
        faulty("ok{}else{try 60{}}", 2, 13);
    }

    private static void faultsOfMany() {
        faulty("try1{".repeat(6) + "}".repeat(6), 3, 25);
        faulty("try1{".repeat(5) + "ok{}else{}" + "}".repeat(5), 3, 25);
        faulty("ok{}else{".repeat(6) + "}".repeat(6), 3, 45);
        faulty("ok{".repeat(5) + " try", 3, 16);
        faulty("try1{".repeat(5) + "try 99", 3, 25);
        faulty("try1{".repeat(5) + "tryy", 1, 25);
        // A 41st STEP needs more than 200 bytes, and these are a FAULT of their own.
        faulty("volt1;".repeat(41), 1, 200);
    }

    private static void formerStays() {
        ChipBurner x = new ChipBurner();
        Check.recipe(x, 0, "volt 7;pulse 4;", 2, 0, NONE);
        Check.recipe(x, 0, "volt 8;pulse 5;verify;pulse 51;", NONE, 2, 28);
        Check.recipe(x, 0, "try 5{pulse 5;", NONE, 1, 14);
        Check.recipe(x, 0, " ".repeat(300), NONE, 1, 200);
        Check.due("walk(0, 0)", x.walk(0, 0), 2);
        Check.due("walk(0, 1)", x.walk(0, 1), 7);
        Check.due("walk(0, 2)", x.walk(0, 2), 4);
        Check.due("walk(0, 3)", x.walk(0, 3), 2);
        Check.recipe(x, 1, "pulse 9;", 1, 0, NONE);
        Check.recipe(x, 3, "volt 1;volt 1;pulse 1;", 3, 0, NONE);
        Check.due("walk(0, 2)", x.walk(0, 2), 4);
        Check.due("walk(1, 1)", x.walk(1, 1), 0);
        Check.due("walk(1, 2)", x.walk(1, 2), 9);
        Check.due("walk(2, 0)", x.walk(2, 0), 0);
        Check.due("walk(3, 1)", x.walk(3, 1), 1);
        Check.recipe(x, 0, "", 0, 0, NONE);
        Check.due("walk(0, 0)", x.walk(0, 0), 0);
        Check.due("walk(0, 1)", x.walk(0, 1), NONE);
        Check.due("walk(0, 2)", x.walk(0, 2), 0);
        Check.due("walk(0, 3)", x.walk(0, 3), 0);
        Check.due("walk(1, 2)", x.walk(1, 2), 9);
    }

    /** Nothing of a longer RECIPE is left when a shorter one takes its place, however often. */
    private static void readOverAndOver() {
        ChipBurner x = new ChipBurner();
        for (int n = 0; n < 3; n++) {
            Check.recipe(x, 0, "try 9{volt 29;ok{pulse 40;}else{verify;}}", 5, 0, NONE);
            Check.due("walk(0, 1)", x.walk(0, 1), 29);
            Check.due("walk(0, 2)", x.walk(0, 2), 360);
            Check.due("walk(0, 3)", x.walk(0, 3), 28);
        }
        for (int n = 0; n < 3; n++) {
            Check.recipe(x, 0, "volt 5;pulse 1;pulse 2;verify;", 4, 0, NONE);
            Check.due("walk(0, 1)", x.walk(0, 1), 5);
            Check.due("walk(0, 2)", x.walk(0, 2), 3);
            Check.due("walk(0, 3)", x.walk(0, 3), 4);
        }
        for (int n = 0; n < 3; n++) {
            Check.recipe(x, 0, "verify;", 1, 0, NONE);
            Check.due("walk(0, 1)", x.walk(0, 1), NONE);
            Check.due("walk(0, 2)", x.walk(0, 2), 0);
            Check.due("walk(0, 3)", x.walk(0, 3), 1);
        }
    }

    private static void noSuchRecipe() {
        ChipBurner x = new ChipBurner();
        Check.load(x, "verify;");
        int[] none = {-1, 4, 5, Integer.MAX_VALUE, Integer.MIN_VALUE};
        for (int r : none) {
            Check.due("recipe(" + r + ")", x.recipe(r), NONE);
            Check.due("about(1)", x.about(1), 7);
            Check.due("fault(0)", x.fault(0), NONE);
            for (int what = 0; what < 4; what++) {
                Check.due("walk(" + r + ", " + what + ")", x.walk(r, what), NONE);
            }
        }
        Check.due("recipe(3)", x.recipe(3), 1);
        int[] whats = {-1, 4, 100, Integer.MAX_VALUE, Integer.MIN_VALUE};
        for (int what : whats) {
            Check.due("walk(3, " + what + ")", x.walk(3, what), NONE);
        }
    }

    private static void voltsOfWays() {
        walk("volt 30;", NONE, 0, 1);
        walk("pulse 1;", 0, 1, 1);
        walk("volt 12;pulse 1;volt 30;", 12, 1, 3);
        walk("volt 12;volt 5;pulse 1;", 5, 1, 3);
        walk("volt 9;pulse 1;volt 5;pulse 1;", 9, 2, 4);
        walk("ok{volt 20;}else{volt 10;}pulse 1;", 20, 1, 3);
        walk("ok{volt 10;}else{volt 20;}pulse 1;", 20, 1, 3);
        walk("volt 25;ok{volt 10;}else{volt 20;}pulse 1;", 20, 1, 4);
        walk("volt 25;ok{volt 10;}else{}pulse 1;", 25, 1, 4);
        walk("ok{pulse 1;volt 9;}else{}", 0, 1, 3);
        // A try may end at once, so what it sets may not have been set.
        walk("volt 25;try 3{volt 10;}pulse 1;", 25, 1, 6);
        walk("volt 5;try 3{volt 10;}pulse 1;", 10, 1, 6);
        // What is set at a time's end is there the next time, if there is one.
        walk("try 1{pulse 1;volt 20;}", 0, 1, 3);
        walk("try 2{pulse 1;volt 20;}", 20, 2, 5);
        walk("volt 7;try 2{ok{pulse 1;}else{volt 20;}}", 20, 2, 6);
        walk("volt 7;try 1{ok{pulse 1;}else{volt 20;}}", 7, 1, 4);
        walk("try 2{volt 3;ok{pulse 1;}else{}volt 9;}", 3, 2, 9);
        walk("try 2{ok{pulse 1;}else{}try 1{volt 30;}}", 30, 2, 9);
        walk("try 1{ok{pulse 1;}else{}try 1{volt 30;}}pulse 1;", 30, 2, 6);
        walk("try 50{try 50{pulse 1;}}volt 30;", 0, 2500, 1 + 50 * 51 + 1);
    }

    private static void pulsesAndStepsOfWays() {
        walk("verify;verify;", NONE, 0, 2);
        walk("pulse 50;pulse 50;", 0, 100, 2);
        walk("ok{pulse 3;}else{pulse 4;}", 0, 4, 2);
        walk("ok{pulse 5;}else{verify;verify;}", 0, 5, 3);
        walk("ok{}else{}", NONE, 0, 1);
        walk("try 50{}", NONE, 0, 1);
        walk("try 3{pulse 2;verify;}pulse 1;", 0, 7, 8);
        walk("try 2{ok{pulse 1;}else{try 3{pulse 1;}}}", 0, 6, 1 + 2 * (1 + 1 + 3));
        walk("ok{ok{verify;}else{verify;verify;}}else{ok{}else{pulse 9;}}", 0, 9, 4);
        walk("try 50{try 50{verify;}}", NONE, 0, 2551);
        walk("try 2{".repeat(5) + "volt 9;pulse 3;" + "}".repeat(5), 9, 96, 31 + 64);
        walk("ok{}else{".repeat(5) + "volt 9;pulse 3;" + "}".repeat(5), 9, 3, 7);
        walk("ok{".repeat(5) + "volt 9;pulse 3;" + "}else{}".repeat(5), 9, 3, 7);
    }

    private static void capped() {
        walk("try 50{try 50{try 50{pulse 8;}}}", 0, 1000000, 1 + 50 * (1 + 50 * (1 + 50)));
        walk("try 50{try 50{try 50{pulse 8;}}}pulse 1;", 0, 1000000, 2 + 50 * (1 + 50 * (1 + 50)));
        walk("try 50{try 50{try 49{pulse 8;}}}pulse 50;", 0, 980050, 2 + 50 * (1 + 50 * (1 + 49)));
        walk("try 50{".repeat(5) + "pulse 50;" + "}".repeat(5), 0, 1000000, 1000000);
        walk("try 50{".repeat(5) + "pulse 50;".repeat(15) + "}".repeat(5), 0, 1000000, 1000000);
        walk("try 50{".repeat(5) + "volt 3;" + "}".repeat(5), NONE, 0, 1000000);
    }
}
