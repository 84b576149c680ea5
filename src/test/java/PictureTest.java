/** Promises 1 to 5: the new object, the picture, the rules and the plates. */
public final class PictureTest {
    private PictureTest() {
    }

    public static void main(String[] args) {
        newHouse();
        constants();
        colourCells();
        colourLights();
        colourRefused();
        typeSigns();
        typeSixty();
        applyCounts();
        applyOrder();
        applyRanges();
        applyWords();
        applyNumbers();
        applyPlaces();
        applyRefused();
        rulesAtFirst();
        plates();
        Checks.end(1, 5);
    }

    private static void test(int promise, String sentence, String rows) {
        Checks.test(promise, sentence, rows);
    }

    // ---- promise 1

    private static void newHouse() {
        for (int what = 0; what <= 4; what++) {
            for (int ink = 0; ink <= 3; ink++) {
                test(1, "a white picture and plates of 0", "each 0 63 ink # " + ink + " " + what + " = 0");
            }
        }
        test(1, "white is 100 of each: without black, no ink is wanted", """
            rules black 0
            each 0 63 ink # 0 0 = 0
            each 0 63 ink # 1 0 = 0
            each 0 63 ink # 2 0 = 0
            """);
        for (int ink = 0; ink <= 3; ink++) {
            test(1, "plates of 0 have no dots", "each 0 63 dot # " + ink + " = false");
        }
        test(1, "no job: the next copy has no number", "next = -1");
        test(1, "no job: there is no copy 0", "copy 0 0 = index");
        test(1, "no job: none of it is to be printed", "all 5 = 0");
        test(1, "no proof to differ from", "differs 0 = state");
        test(1, "no proof to claim by", "claim 0 = state");
        test(1, "nothing was printed and nothing is to come", "each 0 6 all # = 0");
        test(1, "the registers are 0", "each 0 3 unit # 0 = 0 \n each 0 3 unit # 1 = 0");
        test(1, "nothing was typed: nothing to apply", "apply = 0");
        test(1, "nothing was typed: the first sign is one", "type 97 = 1");
        test(1, "the web is not led in", "print 1 = 1");
        for (int unit = 0; unit <= 3; unit++) {
            test(1, "the drift is 0", "print 10 = 10 \n unit " + unit + " 0 = 0 \n unit " + unit + " 1 = 0");
            test(1, "all keys are 50", "each 0 7 key " + unit + " # 50 = 50");
            test(1, "all densities are those of plates of 0", "each 2 9 unit " + unit + " # = 105");
        }
    }

    private static void constants() {
        constant("NONE", GravureHouse.NONE, -1);
        constant("CYAN", GravureHouse.CYAN, 0);
        constant("MAGENTA", GravureHouse.MAGENTA, 1);
        constant("YELLOW", GravureHouse.YELLOW, 2);
        constant("BLACK", GravureHouse.BLACK, 3);
        GravureHouse one = new GravureHouse();
        one.type('a');
        int other = new GravureHouse().type('a');
        Checks.count(1, "a house keeps nothing in another", other == 1 ? null : "type answered " + other);
    }

    private static void constant(String name, int got, int due) {
        Checks.count(1, "constant " + name, got == due ? null : "is " + got + ", due is " + due);
    }

    // ---- promise 2

    private static void colourCells() {
        test(2, "cell 0 is the first", "colour 0 90 100 100 \n ink 0 0 0 = 10 \n ink 1 0 0 = 0");
        test(2, "cell 63 is the last", "colour 63 90 100 100 \n ink 63 0 0 = 10 \n ink 62 0 0 = 0");
        test(2, "only the cell itself is coloured", """
            colour 27 90 100 100
            each 0 26 ink # 0 0 = 0
            each 28 63 ink # 0 0 = 0
            """);
        test(2, "each cell is coloured", "each 0 63 colour # 0 100 100 \n each 0 63 ink # 0 0 = 100");
        test(2, "a cell is coloured anew", "colour 5 0 0 0 \n colour 5 100 90 100 \n ink 5 0 0 = 0 \n ink 5 1 0 = 10");
        test(2, "cells are numbered row by row: 8 is below 0", """
            rules trap 1
            colour 0 80 80 80
            colour 8 100 100 60
            ink 0 2 0 = 10
            ink 0 2 1 = 40
            """);
        test(2, "colour alone makes no plates", "colour 0 0 0 0 \n ink 0 0 3 = 0 \n ink 0 3 3 = 0 \n dot 0 0 = false");
    }

    private static void colourLights() {
        test(2, "red 0 is the least", "colour 0 0 100 100 \n ink 0 0 0 = 100");
        test(2, "red 100 is the most", "colour 0 0 0 0 \n colour 0 100 0 0 \n ink 0 0 0 = 0 \n ink 0 1 0 = 100");
        test(2, "green 0 is the least", "colour 0 100 0 100 \n ink 0 1 0 = 100");
        test(2, "green 100 is the most", "colour 0 0 0 0 \n colour 0 0 100 0 \n ink 0 1 0 = 0 \n ink 0 2 0 = 100");
        test(2, "blue 0 is the least", "colour 0 100 100 0 \n ink 0 2 0 = 100");
        test(2, "blue 100 is the most", "colour 0 0 0 0 \n colour 0 0 0 100 \n ink 0 2 0 = 0 \n ink 0 0 0 = 100");
    }

    private static void colourRefused() {
        for (int cell : new int[] {-1, 64, Integer.MIN_VALUE, Integer.MAX_VALUE}) {
            test(2, "there is no cell " + cell, "colour " + cell + " 0 0 0 = index");
            test(2, "no cell " + cell + " is told ahead of wrong lights", "colour " + cell + " 101 -1 101 = index");
        }
        for (int light : new int[] {-1, 101, Integer.MIN_VALUE, Integer.MAX_VALUE}) {
            test(2, "red " + light + " is out of range", "colour 0 " + light + " 0 0 = argument");
            test(2, "green " + light + " is out of range", "colour 0 0 " + light + " 0 = argument");
            test(2, "blue " + light + " is out of range", "colour 0 0 0 " + light + " = argument");
        }
        test(2, "a colour that is refused by red changes nothing", """
            colour 0 -1 0 0 = argument
            each 0 3 ink 0 # 0 = 0
            """);
        test(2, "a colour that is refused by green changes nothing", """
            colour 0 0 101 0 = argument
            each 0 3 ink 0 # 0 = 0
            """);
        test(2, "a colour that is refused by blue changes nothing", """
            colour 0 0 0 101 = argument
            each 0 3 ink 0 # 0 = 0
            """);
        test(2, "a colour of no cell changes none", """
            colour 64 0 0 0 = index
            colour -1 0 0 0 = index
            each 0 63 ink # 0 0 = 0
            """);
    }

    // ---- promise 3

    private static void typeSigns() {
        int[] right = {'a', 'm', 'z', '0', '5', '9', ' '};
        for (int sign : right) {
            test(3, "sign " + sign + " is a small letter, a figure or a blank", "type " + sign + " = 1");
        }
        int[] wrong = {0, 9, 10, 31, 33, 47, 58, 64, 'A', 'Z', 96, 123, 127, 160, 228, 256 + 'a', 256 + ' ', 0x661,
            0xFF11,
            0xFFFF};
        for (int sign : wrong) {
            test(3, "sign " + sign + " is none of these", "type " + sign + " = argument");
        }
        test(3, "all small letters", "each 97 122 type #");
        test(3, "all figures", "each 48 57 type #");
        test(3, "a sign that is refused changes nothing", "type 97 = 1 \n type 65 = argument \n type 98 = 2");
        test(3, "a sign that is refused is not among the rules", """
            types blac
            type 75 = argument
            types k 30 = 8
            apply = 1
            """);
    }

    private static void typeSixty() {
        test(3, "how many there are, one by one", "each 1 60 type 97 = #");
        test(3, "blanks count as signs", "each 1 60 type 32 = #");
        test(3, "the 60th sign is typed", "59 * type 97 \n type 98 = 60");
        test(3, "the 61st sign is refused", "60 * type 97 \n type 97 = state \n type 32 = state \n type 48 = state");
        test(3, "a wrong 61st sign is refused as wrong", "60 * type 97 \n type 65 = argument");
        test(3, "a refused 61st sign changes nothing", """
            52 * type 32
            types black 10 = 60
            type 48 = state
            apply = 1
            """);
        test(3, "after apply the first sign is one again", "60 * type 97 \n apply = -1 \n each 1 60 type 98 = #");
    }

    // ---- promise 4

    private static void applyCounts() {
        test(4, "without signs there is no rule", "apply = 0");
        test(4, "blanks alone are no rule", "rules     = 0");
        test(4, "sixty blanks are no rule", "60 * type 32 \n apply = 0");
        test(4, "one rule", "rules black 7 = 1");
        test(4, "one rule of each kind",
            "rules black 1 limit 200 trap 1 gain 0 1 delay 1 = 5 \n rules tolerance 1 = 1");
        test(4, "blanks ahead, between and behind", "rules    black    7   limit  100   = 2");
        test(4, "a rule without blanks around, up to the 60th sign", """
            52 * type 32
            types black 31 = 60
            apply = 1
            colour 0 0 0 0
            ink 0 3 0 = 31
            """);
        test(4, "the most rules that 60 signs hold",
            "rules trap 0 trap 1 trap 0 trap 1 trap 0 trap 1 trap 0 trap 1 = 8");
        test(4, "typed in more than one go", "types bla = 3 \n type 99 = 4 \n types k 12 = 8 \n apply = 1");
    }

    private static void applyOrder() {
        test(4, "rules apply in their order: the later counts", """
            colour 0 0 0 0
            rules black 10 black 20 = 2
            ink 0 3 0 = 20
            """);
        test(4, "rules apply when they are told to, not when they are typed", """
            colour 0 0 0 0
            types black 10 = 8
            ink 0 3 0 = 50
            apply = 1
            ink 0 3 0 = 10
            """);
        test(4, "what was typed is gone when it was applied", """
            colour 0 0 0 0
            rules black 10 = 1
            apply = 0
            rules black 20 = 1
            ink 0 3 0 = 20
            """);
        test(4, "what was applied stays, when nothing is", """
            colour 0 0 0 0
            rules black 10 = 1
            apply = 0
            ink 0 3 0 = 10
            """);
        test(4, "the gain of one ink leaves those of the others", """
            rules gain 1 0 = 1
            colour 0 60 60 60
            rules black 50 = 1
            ink 0 0 2 = 12
            ink 0 1 2 = 20
            ink 0 2 2 = 12
            ink 0 3 2 = 12
            """);
    }

    private static void applyRanges() {
        range("black", 0, 100);
        range("limit", 100, 400);
        range("trap", 0, 1);
        for (int ink = 0; ink <= 3; ink++) {
            range("gain " + ink, 0, 40);
        }
        range("tolerance", 0, 9);
        range("delay", 0, 50);
        test(4, "gain 4: there is no such ink", "rules gain 4 0 = -1");
        test(4, "gain 999: there is no such ink", "rules gain 999 0 = -1");
    }

    private static void range(String rule, int least, int most) {
        test(4, rule + " " + least + " is the least", "rules " + rule + " " + least + " = 1");
        test(4, rule + " " + most + " is the most", "rules " + rule + " " + most + " = 1");
        test(4, rule + " " + (most + 1) + " is too much", "rules " + rule + " " + (most + 1) + " = -1");
        test(4, rule + " 999 is too much", "rules " + rule + " 999 = -1");
        if (least > 0) {
            test(4, rule + " " + (least - 1) + " is too little", "rules " + rule + " " + (least - 1) + " = -1");
        }
    }

    private static void applyWords() {
        String[] words = {"x", "tint", "blac", "blacks", "slack", "blank", "bblack", "limi", "limits", "tra", "traps",
            "crap",
            "gai", "gains", "again", "toleranc", "tolerances", "dela", "delays", "relay", "black5", "5black"};
        for (String word : words) {
            test(4, word + " is no word", "rules " + word + " 1 = -1 \n rules " + word + " 1 1 = -1");
        }
        test(4, "a number is no word", "rules 5 = -1 \n rules 50 black = -1");
        test(4, "without a blank there is no word", "rules black5 = -1 \n rules trap1 = -1 \n rules gain01 = -1");
        test(4, "a word in two pieces is none", "rules bla ck 5 = -1");
    }

    private static void applyNumbers() {
        for (String word : new String[] {"black", "limit", "trap", "gain", "gain 1", "tolerance", "delay"}) {
            test(4, word + " has no number behind it", "rules " + word + " = -1");
            test(4, word + " has a word behind it", "rules " + word + " trap = -1 \n rules " + word + " trap 1 = -1");
        }
        test(4, "gain has a word for its ink", "rules gain x 1 = -1");
        test(4, "a number of 1 figure", "rules black 7 = 1 \n colour 0 0 0 0 \n ink 0 3 0 = 7");
        test(4, "a number of 2 figures", "rules black 07 = 1 \n colour 0 0 0 0 \n ink 0 3 0 = 7");
        test(4, "a number of 3 figures", "rules black 007 = 1 \n colour 0 0 0 0 \n ink 0 3 0 = 7");
        test(4, "4 figures are no number", "rules black 0007 = -1 \n rules limit 0200 = -1 \n rules gain 0001 5 = -1");
        test(4, "many figures are no number, and don't wrap around", """
            rules black 4294967346 = -1
            rules black 18446744073709551666 = -1
            rules trap 00000000000000000000000000000000000000000000000000001 = -1
            """);
        test(4, "letters and figures mixed are no number",
            "rules black 5x = -1 \n rules black x5 = -1 \n rules trap 1a = -1");
        test(4, "letters are no number, though their signs' numbers would be in range", """
            rules black a = -1
            rules black 1a = -1
            rules black 0a = -1
            rules limit 9a = -1
            rules delay a = -1
            rules delay 0a = -1
            """);
        test(4, "the ink of a gain has up to 3 figures", "rules gain 003 007 = 1");
    }

    private static void applyPlaces() {
        test(4, "the place is counted among words and numbers", "rules black 10 trap 2 = -3");
        test(4, "the place behind a gain", "rules gain 1 2 limit = -4");
        test(4, "the place behind many blanks", "rules     trap 1     gain 1 2    nothing = -6");
        test(4, "the place of the first that is refused", "rules trap 2 black 101 x = -1");
        test(4, "the place is the word's, not its number's", "rules black 10 gain 1 41 = -3 \n rules gain 4 1 = -1");
        test(4, "a number too many stands where a word should", "rules black 10 20 = -3 \n rules gain 1 2 3 = -4");
        test(4, "the 15th place", "rules trap 0 trap 0 trap 0 trap 0 trap 0 trap 0 trap 0 trap = -15");
        test(4, "thirty words", "rules a b c d e f g h i j k l m n o p q r s t u v w x y z a b c d = -1");
        test(4, "the last place of 60 signs",
            "rules limit 100 limit 100 limit 100 limit 100 limit 100 limit 99 x = -11");
    }

    private static void applyRefused() {
        test(4, "if a rule is refused, none ahead of it is applied", """
            colour 0 0 0 0
            colour 1 0 90 90
            rules black 10 limit 100 trap 1 gain 0 0 gain 3 40 nothing = -13
            ink 0 3 1 = 50
            ink 0 0 1 = 50
            ink 0 0 2 = 33
            ink 0 3 2 = 33
            """);
        test(4, "if a rule is refused, tolerance and delay are as they were", """
            rules tolerance 0 delay 0 x = -5
            correct 0 2 0 = 1
            print 11 = 11
            """);
        test(4, "if a rule is refused, none behind it is applied", """
            colour 0 0 0 0
            rules nothing black 10 = -1
            ink 0 3 1 = 50
            """);
        test(4, "what was refused is gone", """
            rules nothing = -1
            apply = 0
            type 97 = 1
            """);
        test(4, "what was refused has no part in the rules that are typed then", """
            colour 0 60 60 60
            colour 1 0 100 100
            rules trap 1 = 1
            rules black 10 trap 0 x = -5
            rules black 20 = 1
            ink 0 0 0 = 32
            ink 0 0 1 = 100
            """);
        test(4, "behind a refusal rules are typed anew", """
            colour 0 0 0 0
            rules black = -1
            rules 10 = -1
            rules black 10 = 1
            ink 0 3 1 = 10
            """);
    }

    private static void rulesAtFirst() {
        test(4, "black is 50 at first", "colour 0 0 0 0 \n ink 0 3 0 = 50");
        test(4, "the limit is 300 at first: 300 of all inks are not too much", """
            rules black 0
            colour 0 0 0 0
            each 0 2 ink 0 # 0 = 100
            """);
        test(4, "trap is 0 at first", "colour 0 0 0 0 \n colour 1 0 100 100 \n ink 0 0 1 = 50");
        test(4, "each gain is 20 at first", """
            colour 0 20 20 20
            each 0 3 ink 0 # 2 = 25
            """);
        test(4, "the tolerance is 2 at first", """
            rules delay 0
            correct 0 2 0 = 0
            print 1 = 1
            correct 0 1 0 = 0
            print 1 = 0
            """);
        test(4, "the delay is 10 copies at first", """
            correct 0 1 0 = 1
            print 9
            unit 0 0 = 0
            print 1
            unit 0 0 = 1
            """);
    }

    // ---- promise 5

    private static void plates() {
        test(5, "plates of a white picture are as before: 0", "plates = 0");
        test(5, "one tint is other than before", "colour 0 90 100 100 \n plates = 1");
        test(5, "each ink counts", "colour 0 20 40 60 \n plates = 4");
        test(5, "all 256 tints are other", "each 0 63 colour # 0 0 0 \n plates = 256");
        test(5, "the same plates again: 0", "each 0 63 colour # 0 0 0 \n plates \n plates = 0");
        test(5, "a tint that becomes 0 is other too",
            "colour 0 20 40 60 \n plates \n colour 0 100 100 100 \n plates = 4");
        test(5, "until plates are made, tints are as they were", """
            colour 0 20 40 60
            ink 0 0 3 = 0
            plates = 4
            ink 0 0 3 = 41
            ink 0 1 3 = 25
            ink 0 2 3 = 12
            ink 0 3 3 = 12
            colour 0 100 100 100
            ink 0 0 3 = 41
            """);
        test(5, "plates are made by the rules as they are", """
            colour 0 60 100 100
            rules gain 0 0
            plates = 1
            ink 0 0 3 = 40
            rules gain 0 20
            ink 0 0 3 = 40
            plates = 1
            ink 0 0 3 = 25
            """);
        test(5, "plates are made with traps", """
            rules trap 1 gain 0 0
            colour 0 60 60 60
            colour 1 0 100 100
            plates = 5
            ink 0 0 3 = 100
            """);
        test(5, "what is wanted otherwise, but needs the same tint, is no other", """
            colour 0 60 100 100
            plates = 1
            colour 0 61 100 100
            plates = 0
            """);
        test(5, "rules that were typed and not applied don't count", """
            colour 0 60 100 100
            types gain 0 0
            plates = 1
            ink 0 0 3 = 25
            """);
    }
}
