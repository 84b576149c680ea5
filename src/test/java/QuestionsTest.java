/** Promises 15 to 20: what can be asked of inks, dots, units, copies and sums. */
public final class QuestionsTest {
    private static final int[] NO_CELLS = {-1, 64, Integer.MIN_VALUE, Integer.MAX_VALUE};
    private static final int[] NO_INKS = {-1, 4, Integer.MIN_VALUE, Integer.MAX_VALUE};

    /** Rules by which an ink prints what its plate has, which is what is wanted. */
    private static final String PLAIN = "rules black 0 gain 0 0 gain 1 0 gain 2 0 \n";

    private QuestionsTest() {
    }

    public static void main(String[] args) {
        inksOfColours();
        blackShare();
        limit();
        trapsOfSides();
        trapsAtEdges();
        trapsOfEachCell();
        trapsAndRules();
        leastTints();
        printedTints();
        inkStages();
        inkRefused();
        dots();
        dotRefused();
        registers();
        densities();
        unitRefused();
        copy();
        copyRefused();
        next();
        all();
        allRefused();
        questionsChangeNothing();
        Checks.end(15, 20);
    }

    private static void test(int promise, String sentence, String rows) {
        Checks.test(promise, sentence, rows);
    }

    /** Rows that ask for all four inks of a cell. */
    private static String inks(int cell, int what, int... dues) {
        StringBuilder rows = new StringBuilder("\n");
        for (int ink = 0; ink < dues.length; ink++) {
            rows.append("ink ").append(cell).append(' ').append(ink).append(' ').append(what);
            rows.append(" = ").append(dues[ink]).append('\n');
        }
        return rows.toString();
    }

    // ---- promise 15: terms, the inks of a cell

    private static void inksOfColours() {
        test(15, "cyan is 100 less red", "rules black 0 \n colour 0 1 100 100" + inks(0, 0, 99, 0, 0, 0));
        test(15, "magenta is 100 less green", "rules black 0 \n colour 0 100 1 100" + inks(0, 0, 0, 99, 0, 0));
        test(15, "yellow is 100 less blue", "rules black 0 \n colour 0 100 100 1" + inks(0, 0, 0, 0, 99, 0));
        test(15, "the three are less by black", "colour 0 20 40 60" + inks(0, 0, 60, 40, 20, 20));
        test(15, "black is of the least: yellow", "colour 0 10 10 90" + inks(0, 0, 85, 85, 5, 5));
        test(15, "black is of the least: magenta", "colour 0 10 90 10" + inks(0, 0, 85, 5, 85, 5));
        test(15, "black is of the least: cyan", "colour 0 90 10 10" + inks(0, 0, 5, 85, 85, 5));
        test(15, "without one of the three there is no black", "colour 0 0 0 100" + inks(0, 0, 100, 100, 0, 0));
        test(15, "the inks of black as the rules are at first", "colour 0 0 0 0" + inks(0, 0, 50, 50, 50, 50));
    }

    private static void blackShare() {
        test(15, "black 0: no black at all", "rules black 0 \n colour 0 10 20 30" + inks(0, 0, 90, 80, 70, 0));
        test(15, "black 100: the least of the three is gone",
            "rules black 100 \n colour 0 10 20 30" + inks(0, 0, 20, 10, 0, 70));
        test(15, "black is rounded down: 1 times 50", "colour 0 99 99 99" + inks(0, 0, 1, 1, 1, 0));
        test(15, "black is rounded down: 3 times 50", "colour 0 97 97 97" + inks(0, 0, 2, 2, 2, 1));
        test(15, "black is rounded down: 99 times 99", "rules black 99 \n colour 0 1 1 1" + inks(0, 0, 1, 1, 1, 98));
        test(15, "black is rounded down: 99 times 1", "rules black 1 \n colour 0 1 1 1" + inks(0, 0, 99, 99, 99, 0));
        test(15, "black is exact: 100 times 1", "rules black 1 \n colour 0 0 0 0" + inks(0, 0, 99, 99, 99, 1));
    }

    private static void limit() {
        test(15, "as much as the limit is not more",
            "rules black 0 limit 250 \n colour 0 0 0 50" + inks(0, 0, 100, 100, 50, 0));
        test(15, "one more than the limit is more",
            "rules black 0 limit 249 \n colour 0 0 0 50" + inks(0, 0, 99, 99, 49, 0));
        test(15, "all four count, as much as the limit",
            "rules limit 200 \n colour 0 0 0 0" + inks(0, 0, 50, 50, 50, 50));
        test(15, "all four count, one more than the limit; black stays",
            "rules limit 199 \n colour 0 0 0 0" + inks(0, 0, 49, 49, 49, 50));
        test(15, "limit 100: the least", "rules black 0 limit 100 \n colour 0 0 0 0" + inks(0, 0, 33, 33, 33, 0));
        test(15, "each of the three by itself, rounded down",
            "rules black 20 limit 100 \n colour 0 0 50 90" + inks(0, 0, 62, 30, 5, 2));
        test(15, "black alone at the limit leaves nothing to divide",
            "rules black 100 limit 100 \n colour 0 0 0 0" + inks(0, 0, 0, 0, 0, 100));
        test(15, "black nearly alone, above the limit",
            "rules black 99 limit 100 \n colour 0 0 0 0" + inks(0, 0, 0, 0, 0, 99));
        test(15, "limit 400: the most, which no cell comes to",
            "rules black 0 limit 400 \n colour 0 0 0 0" + inks(0, 0, 100, 100, 100, 0));
        test(15, "white is never above the limit", "rules limit 100" + inks(0, 0, 0, 0, 0, 0));
    }

    // ---- promise 15: terms, traps

    private static void trapsOfSides() {
        String grey = "rules trap 1 black 0 \n colour 27 40 40 40 \n";
        test(15, "trap 1: the greatest of the side above", grey + "colour 19 30 80 80" + inks(27, 1, 70, 60, 60, 0));
        test(15, "trap 1: the greatest of the side below", grey + "colour 35 80 30 80" + inks(27, 1, 60, 70, 60, 0));
        test(15, "trap 1: the greatest of the side to the left",
            grey + "colour 26 80 80 30" + inks(27, 1, 60, 60, 70, 0));
        test(15, "trap 1: the greatest of the side to the right",
            grey + "colour 28 30 80 80" + inks(27, 1, 70, 60, 60, 0));
        test(15, "trap 1: the greatest of all sides", grey + """
            colour 19 20 80 80
            colour 35 10 80 80
            colour 26 30 80 80
            colour 28 80 80 0
            """ + inks(27, 1, 90, 60, 100, 0));
        test(15, "trap 1: the greatest may be its own", grey + "colour 19 50 80 80" + inks(27, 1, 60, 60, 60, 0));
        for (int corner : new int[] {18, 20, 34, 36}) {
            test(15, "trap 1: corner " + corner + " is no side",
                grey + "colour " + corner + " 0 80 80" + inks(27, 1, 60, 60, 60, 0));
        }
        for (int far : new int[] {11, 25, 29, 43}) {
            test(15, "trap 1: cell " + far + ", two steps off, is no side",
                grey + "colour " + far + " 0 80 80" + inks(27, 1, 60, 60, 60, 0));
        }
        test(15, "trap 1: a side that is as light is not lighter",
            grey + "colour 19 0 60 60" + inks(27, 1, 60, 60, 60, 0));
        test(15, "trap 1: a side that is lighter by 1 is lighter",
            grey + "colour 19 0 61 60" + inks(27, 1, 100, 60, 60, 0));
        test(15, "trap 1: a side that is darker by 1 is not lighter",
            grey + "colour 19 0 59 60" + inks(27, 1, 60, 60, 60, 0));
        test(15, "trap 1: lightness is of red, green and blue together",
            grey + "colour 19 100 0 21" + inks(27, 1, 60, 100, 79, 0));
        test(15, "trap 1: the lighter one gets nothing of the darker",
            grey + "colour 19 0 80 80" + inks(19, 1, 100, 20, 20, 0));
        test(15, "trap 1: what a side gives is as it is ahead of traps",
            grey + "colour 28 50 50 50 \n colour 29 0 80 80"
            + inks(28, 1, 100, 50, 50, 0) + inks(27, 1, 60, 60, 60, 0));
        test(15, "trap 1: ahead of traps nothing is changed", grey + "colour 19 0 80 80" + inks(27, 0, 60, 60, 60, 0));
        test(15, "trap 0: no traps", grey + "colour 19 0 80 80 \n rules trap 0" + inks(27, 1, 60, 60, 60, 0));
    }

    private static void trapsAtEdges() {
        String last = "rules trap 1 black 0 \n";
        test(15, "trap 1: the first cell of a row is no side of the last of the row ahead", last
            + "colour 7 10 10 10 \n colour 8 0 90 100" + inks(7, 1, 90, 90, 90, 0));
        test(15, "trap 1: the last cell of a row is no side of the first of the row behind", last
            + "colour 8 10 10 10 \n colour 7 0 90 100" + inks(8, 1, 90, 90, 90, 0));
        test(15, "trap 1: the first row and the last are no sides of each other", last
            + "colour 0 10 10 10 \n colour 56 0 90 100" + inks(0, 1, 90, 90, 90, 0)
            + "colour 63 10 10 10 \n colour 7 0 90 100" + inks(63, 1, 90, 90, 90, 0));
        test(15, "trap 1: cell 0 has a side to the right and one below", last
            + "colour 0 10 10 10 \n colour 1 0 90 90 \n colour 8 90 0 90" + inks(0, 1, 100, 100, 90, 0));
        test(15, "trap 1: cell 7 has a side to the left and one below", last
            + "colour 7 10 10 10 \n colour 6 0 90 90 \n colour 15 90 0 90" + inks(7, 1, 100, 100, 90, 0));
        test(15, "trap 1: cell 56 has a side to the right and one above", last
            + "colour 56 10 10 10 \n colour 57 0 90 90 \n colour 48 90 0 90" + inks(56, 1, 100, 100, 90, 0));
        test(15, "trap 1: cell 63 has a side to the left and one above", last
            + "colour 63 10 10 10 \n colour 62 0 90 90 \n colour 55 90 0 90" + inks(63, 1, 100, 100, 90, 0));
        test(15, "trap 1: the second row has the first above, and the second column the first to its left", last
            + "colour 9 10 10 10 \n colour 1 0 90 90 \n colour 8 90 0 90" + inks(9, 1, 100, 100, 90, 0));
        test(15, "trap 1: the last row but one has the last below, and the last column but one the last to its right",
            last
            + "colour 54 10 10 10 \n colour 62 0 90 90 \n colour 55 90 0 90" + inks(54, 1, 100, 100, 90, 0));
    }

    /** Looks at each cell beside each other one: a side gives its cyan, the others don't. */
    private static void trapsOfEachCell() {
        for (int cell = 0; cell < 64; cell++) {
            StringBuilder rows = new StringBuilder("rules trap 1 black 0 \n");
            rows.append("colour ").append(cell).append(" 10 10 10 \n");
            for (int other = 0; other < 64; other++) {
                int steps = Math.abs(other / 8 - cell / 8) + Math.abs(other % 8 - cell % 8);
                if (steps > 0) {
                    rows.append("colour ").append(other).append(" 0 90 90 \n");
                    rows.append("ink ").append(cell).append(" 0 1 = ").append(steps == 1 ? 100 : 90).append('\n');
                    rows.append("colour ").append(other).append(" 100 100 100 \n");
                }
            }
            test(15, "trap 1: the sides of cell " + cell, rows.toString());
        }
    }

    private static void trapsAndRules() {
        test(15, "trap 1: black is not trapped", "rules trap 1 black 100 \n colour 0 60 60 0 \n colour 1 55 55 55"
            + inks(1, 0, 0, 0, 0, 45) + inks(0, 1, 0, 0, 60, 40));
        test(15, "trap 1: what a side gives is less by its black", "rules trap 1 \n colour 0 0 0 0 \n colour 1 10 10 10"
            + inks(1, 0, 45, 45, 45, 45) + "colour 1 0 50 50" + inks(0, 1, 75, 50, 50, 50));
        test(15, "trap 1: what traps add is not less by the limit",
            "rules trap 1 black 0 limit 100 \n colour 0 0 0 0 \n"
            + "colour 1 0 50 80" + inks(0, 1, 58, 33, 33, 0));
    }

    // ---- promise 15: terms, curves

    private static int prints(int tint, int gain) {
        return tint + gain * tint * (100 - tint) / 2500;
    }

    private static int leastTint(int wanted, int gain) {
        int least = 100;
        for (int tint = 100; tint >= 0; tint--) {
            if (prints(tint, gain) >= wanted) {
                least = tint;
            }
        }
        return least;
    }

    private static void leastTints() {
        for (int gain = 0; gain <= 40; gain++) {
            StringBuilder rows = new StringBuilder("rules black 0 gain 0 " + gain + "\n");
            for (int wanted = 0; wanted <= 100; wanted++) {
                rows.append("colour 0 ").append(100 - wanted).append(" 100 100 \n");
                rows.append("ink 0 0 2 = ").append(leastTint(wanted, gain)).append('\n');
            }
            test(15, "with the gain " + gain + " the least tint that is printed as what is wanted, or more",
                rows.toString());
        }
        test(15, "printed just as wanted", "rules black 0 \n colour 0 60 100 100 \n ink 0 0 2 = 25");
        test(15, "printed as more than wanted", "rules black 0 \n colour 0 61 100 100 \n ink 0 0 2 = 25");
        test(15, "nothing wanted: tint 0", "ink 0 0 2 = 0");
        test(15, "100 wanted without gain: tint 100", PLAIN + "colour 0 0 100 100 \n ink 0 0 2 = 100");
        test(15, "100 wanted with the greatest gain: the least of several tints",
            "rules black 0 gain 0 40 \n colour 0 0 100 100 \n ink 0 0 2 = 63");
        test(15, "the tint that a plate would have is that of what is wanted with traps", PLAIN + "rules trap 1 \n"
            + "colour 0 60 60 60 \n colour 1 20 90 90" + inks(0, 2, 80, 40, 40, 0));
        test(15, "black has a curve of its own",
            "rules black 100 gain 3 0 \n colour 0 60 60 60" + inks(0, 2, 0, 0, 0, 40));
    }

    private static void printedTints() {
        for (int gain = 0; gain <= 40; gain++) {
            for (int first : new int[] {0, 37}) {
                StringBuilder rows = new StringBuilder("rules black 0 gain 0 0\n");
                for (int cell = 0; cell < 64; cell++) {
                    rows.append("colour ").append(cell).append(' ').append(100 - first - cell).append(" 100 100 \n");
                }
                rows.append("plates \n rules gain 0 ").append(gain).append('\n');
                for (int cell = 0; cell < 64; cell++) {
                    rows.append("ink ").append(cell).append(" 0 4 = ").append(prints(first + cell, gain)).append('\n');
                }
                test(15, "with the gain " + gain + " a tint prints as itself and the gain's part", rows.toString());
            }
        }
        String plain = PLAIN + "colour 0 20 100 100 \n plates \n";
        test(15, "a tint may print as more than 100", plain + "rules gain 0 40 \n ink 0 0 4 = 105");
        test(15, "what is printed is rounded down",
            PLAIN + "colour 0 99 100 100 \n plates \n rules gain 0 40 \n ink 0 0 4 = 2");
        test(15, "what is printed goes by the gain as it is",
            plain + "ink 0 0 4 = 80 \n rules gain 0 20 \n ink 0 0 4 = 92");
    }

    private static void inkStages() {
        String traps = "rules trap 1 \n colour 9 100 50 0 \n colour 17 60 60 60";
        test(15, "0 is what is wanted ahead of traps", traps + inks(9, 0, 0, 50, 100, 0));
        test(15, "1 is what is wanted", traps + inks(9, 1, 20, 50, 100, 0));
        test(15, "2 is the tint that the plate would have", traps + inks(9, 2, 12, 33, 100, 0));
        test(15, "3 is the tint that the plate has, 0 until plates are made", traps + inks(9, 3, 0, 0, 0, 0)
            + "plates" + inks(9, 3, 12, 33, 100, 0));
        test(15, "4 is what that prints, 0 until plates are made", traps + inks(9, 4, 0, 0, 0, 0)
            + "plates" + inks(9, 4, 20, 50, 100, 0));
        test(15, "0, 1 and 2 go by the picture as it is, 3 and 4 by the plates",
            traps + "\n plates \n colour 9 100 100 100"
            + inks(9, 0, 0, 0, 0, 0) + inks(9, 1, 0, 0, 0, 0) + inks(9, 2, 0, 0, 0, 0)
            + inks(9, 3, 12, 33, 100, 0) + inks(9, 4, 20, 50, 100, 0));
        test(15, "2 and 4 go by the gains as they are, 3 by the plates", traps + "\n plates \n rules gain 1 0"
            + inks(9, 2, 12, 50, 100, 0) + inks(9, 3, 12, 33, 100, 0) + inks(9, 4, 20, 33, 100, 0));
        test(15, "rules that were typed and not applied don't count",
            "colour 0 0 0 0 \n types black 0" + inks(0, 0, 50, 50, 50, 50));
    }

    private static void inkRefused() {
        test(15, "cells 0 and 63 are the first and the last", "each 0 3 ink 0 # 0 = 0 \n each 0 3 ink 63 # 4 = 0");
        for (int cell : NO_CELLS) {
            test(15, "there is no cell " + cell, "each 0 4 ink " + cell + " 0 # = index");
            test(15, "no cell " + cell + " is told ahead of a wrong what",
                "ink " + cell + " 0 5 = index \n ink " + cell + " 4 -1 = index");
        }
        for (int ink : NO_INKS) {
            test(15, "there is no ink " + ink, "each 0 4 ink 0 " + ink + " # = index");
            test(15, "no ink " + ink + " is told ahead of a wrong what",
                "ink 0 " + ink + " 5 = index \n ink 63 " + ink + " -1 = index");
        }
        for (int what : new int[] {-1, 5, Integer.MIN_VALUE, Integer.MAX_VALUE}) {
            test(15, "what " + what + " is out of range",
                "ink 0 0 " + what + " = argument \n ink 63 3 " + what + " = argument");
        }
    }

    // ---- promise 16

    /** Rows that make plates of plain tints in a row of cells, and ask for its dots, written as 1 or 0. */
    private static String dotsOf(int row, int[] tints, String dots) {
        StringBuilder rows = new StringBuilder(PLAIN);
        for (int i = 0; i < tints.length; i++) {
            rows.append("colour ").append(row * 8 + i).append(' ').append(100 - tints[i]).append(" 100 100\n");
        }
        rows.append("plates\n");
        for (int i = 0; i < dots.length(); i++) {
            rows.append("dot ").append(row * 8 + i).append(" 0 = ").append(dots.charAt(i) == '1').append('\n');
        }
        return rows.toString();
    }

    private static void dots() {
        test(16, "49 is no dot", dotsOf(0, new int[] {49}, "0"));
        test(16, "50 is a dot", dotsOf(0, new int[] {50}, "1"));
        test(16, "0 is no dot", dotsOf(0, new int[] {0, 0}, "00"));
        test(16, "100 is a dot and leaves no error", dotsOf(0, new int[] {100, 49, 1}, "101"));
        test(16, "49 and 1 are 50 together: a dot", dotsOf(0, new int[] {49, 1}, "01"));
        test(16, "49 and 0 are 49 together: none, and all is carried", dotsOf(0, new int[] {49, 0, 1}, "001"));
        test(16, "a dot of 50 leaves -50: 99 are none then", dotsOf(0, new int[] {50, 99, 1}, "101"));
        test(16, "a dot of 50 leaves -50: 100 are one then", dotsOf(0, new int[] {50, 100, 100}, "111"));
        test(16, "a dot of more than 100 leaves an error above 0", dotsOf(0, new int[] {49, 100, 1}, "011"));
        test(16, "from the left, not from the right", dotsOf(0, new int[] {1, 49, 0, 0, 0, 0, 0, 49}, "01000000"));
        test(16, "a whole row", dotsOf(3, new int[] {49, 1, 60, 100, 89, 49, 52, 49}, "01011010"));
        test(16, "the error is 0 at the beginning of a row",
            dotsOf(0, new int[] {0, 0, 0, 0, 0, 0, 0, 49, 1, 48, 1}, "00000000001"));
        test(16, "an error below 0 is none of the next row",
            dotsOf(0, new int[] {0, 0, 0, 0, 0, 0, 0, 50, 50}, "000000011"));
        test(16, "the last row", dotsOf(7, new int[] {30, 30, 30, 30, 30, 30, 30, 40}, "01001001"));
        test(16, "full plates have all dots",
            "rules black 0 \n each 0 63 colour # 0 0 0 \n plates \n each 0 63 dot # 2 = true");
        test(16, "it goes by the plate, not by the picture",
            "colour 0 0 100 100 \n dot 0 0 = false \n plates \n dot 0 0 = true \n"
            + "colour 0 100 100 100 \n dot 0 0 = true");
        test(16, "it goes by the tint, not by what that prints",
            "colour 0 40 100 100 \n plates \n ink 0 0 3 = 41 \n ink 0 0 4 = 60 \n dot 0 0 = false");
        test(16, "each ink has dots of its own", "rules black 100 \n colour 0 0 0 0 \n colour 1 100 0 100 \n plates \n"
            + "dot 0 3 = true \n dot 0 1 = false \n dot 1 1 = true \n dot 1 3 = false \n dot 1 0 = false \n "
                + "dot 1 2 = false");
    }

    private static void dotRefused() {
        test(16, "cells 0 and 63, inks 0 and 3 are the first and the last", "dot 0 0 = false \n dot 63 3 = false");
        for (int cell : NO_CELLS) {
            test(16, "there is no cell " + cell, "each 0 4 dot " + cell + " # = index");
        }
        for (int ink : NO_INKS) {
            test(16, "there is no ink " + ink, "dot 0 " + ink + " = index \n dot 63 " + ink + " = index");
        }
    }

    // ---- promise 17

    private static void registers() {
        test(17, "0 is the register in x, 1 in y", "rules delay 0 \n correct 1 4 -6 \n unit 1 0 = 4 \n unit 1 1 = -6");
        test(17, "a register of each unit", """
            rules delay 0
            correct 0 1 5
            correct 1 2 6
            correct 2 3 7
            correct 3 4 8
            unit 0 0 = 1
            unit 1 0 = 2
            unit 2 0 = 3
            unit 3 0 = 4
            unit 0 1 = 5
            unit 1 1 = 6
            unit 2 1 = 7
            unit 3 1 = 8
            """);
        test(17, "a correction that is to come is not in it", "correct 0 1 1 \n unit 0 0 = 0 \n unit 0 1 = 0");
    }

    /** Rows by which the tints in column 3 of cyan have a sum, up to 800, and its density is asked. */
    private static String density(int sum, int due) {
        StringBuilder rows = new StringBuilder(PLAIN);
        int left = sum;
        for (int row = 0; row < 8; row++) {
            int tint = Math.min(left, 100);
            left -= tint;
            rows.append("colour ").append(row * 8 + 3).append(' ').append(100 - tint).append(" 100 100\n");
        }
        return rows.append("plates\n unit 0 5 = ").append(due).append('\n').toString();
    }

    private static void densities() {
        test(17, "a column of 400: 100 by a key of 50", density(400, 100));
        test(17, "a column of 0", density(0, 105));
        test(17, "a column of 800", density(800, 95));
        test(17, "m of 9 is rounded towards 0", density(479, 100));
        test(17, "m of 10 takes 1", density(480, 99));
        test(17, "m of -9 is rounded towards 0", density(321, 100));
        test(17, "m of -10 gives 1", density(320, 101));
        test(17, "what is divided by 8 is rounded towards 0 above 0: 399 is 49", density(799, 96));
        test(17, "what is divided by 8 is rounded towards 0 below 0: -399 is -49", density(1, 104));
        test(17, "what is divided by 8 is rounded towards 0 below 0: -393 is -49", density(7, 104));
        test(17, "what is divided by 8 is exact: -392 is -49", density(8, 104));
        test(17, "what is divided by 8 is exact: -320 is -40", density(80, 104));
        test(17, "what is divided by 8 is rounded towards 0 below 0: -319 is -39", density(81, 103));
        test(17, "a key of 0 takes 50", "key 0 0 0 \n unit 0 2 = 55");
        test(17, "a key of 100 gives 50", "key 0 0 100 \n unit 0 2 = 155");
        test(17, "the least density", density(800, 95) + "key 0 3 0 \n unit 0 5 = 45");
        test(17, "it is of the plates' column alone", density(800, 95)
            + "unit 0 4 = 105 \n unit 0 6 = 105 \n unit 1 5 = 105 \n unit 3 5 = 105");
        test(17, "it goes by the plates' tints, not by what is wanted or printed",
            "each 0 63 colour # 60 100 100 \n unit 0 2 = 105 \n plates \n unit 0 2 = 102");
        test(17, "2 is column 0", "key 2 0 60 \n unit 2 2 = 115 \n each 3 9 unit 2 # = 105");
        test(17, "9 is column 7", "key 2 7 60 \n unit 2 9 = 115 \n each 2 8 unit 2 # = 105");
        test(17, "all rows of the column count, the first and the last too", PLAIN
            + "colour 0 0 100 100 \n plates \n unit 0 2 = 103 \n colour 56 0 100 100 \n plates \n unit 0 2 = 102");
    }

    private static void unitRefused() {
        for (int unit : NO_INKS) {
            test(17, "there is no unit " + unit, "each 0 9 unit " + unit + " # = index");
            test(17, "no unit " + unit + " is told ahead of a wrong what",
                "unit " + unit + " 10 = index \n unit " + unit + " -1 = index");
        }
        for (int what : new int[] {-1, 10, Integer.MIN_VALUE, Integer.MAX_VALUE}) {
            test(17, "what " + what + " is out of range", "each 0 3 unit # " + what + " = argument");
        }
    }

    // ---- promise 18

    private static void copy() {
        test(18, "a copy that was not printed", "job 1 \n copy 0 0 = 0 \n copy 0 1 = 0");
        test(18, "a copy that is good",
            "job 2 \n print 1 = 1 \n copy 0 0 = 1 \n copy 0 1 = 1 \n copy 1 0 = 0 \n copy 1 1 = 0");
        test(18, "a copy that is waste was printed, and is not good",
            "job 1 \n tear \n print 1 = 0 \n copy 0 0 = 0 \n copy 0 1 = 1");
        test(18, "a copy that is good in the end",
            "job 1 \n tear \n print 20 = 0 \n copy 0 1 = 20 \n print 1 = 1 \n copy 0 0 = 1 \n copy 0 1 = 21");
        test(18, "a good copy is not printed again", "job 1 \n print 1 = 1 \n print 100 = 100 \n copy 0 1 = 1");
        test(18, "a copy that is waste by register is not good",
            "job 1 \n rules delay 0 \n correct 0 3 0 \n print 1 = 0 \n copy 0 0 = 0 \n copy 0 1 = 1");
        test(18, "a copy that is waste by density is not good",
            "job 1 \n key 0 0 100 \n print 1 = 0 \n copy 0 0 = 0 \n copy 0 1 = 1");
        test(18, "a copy of a job that is done is told of",
            "job 1 \n print 1 = 1 \n next = -1 \n copy 0 0 = 1 \n copy 0 1 = 1");
        test(18, "copy 199 is the last of 200",
            "job 200 \n print 100 \n print 100 \n copy 199 0 = 1 \n copy 199 1 = 1 \n copy 200 0 = index");
    }

    private static void copyRefused() {
        for (int copy : new int[] {0, 1, -1, 199, Integer.MIN_VALUE, Integer.MAX_VALUE}) {
            test(18, "without a job there is no copy " + copy,
                "copy " + copy + " 0 = index \n copy " + copy + " 1 = index");
        }
        for (int copy : new int[] {-1, 2, 199, 200, Integer.MIN_VALUE, Integer.MAX_VALUE}) {
            test(18, "a job of 2 has no copy " + copy,
                "job 2 \n copy " + copy + " 0 = index \n copy " + copy + " 1 = index");
            test(18, "no copy " + copy + " is told ahead of a wrong what",
                "job 2 \n copy " + copy + " 2 = index \n copy " + copy + " -1 = index");
        }
        test(18, "no job is told ahead of a wrong what", "copy 0 2 = index \n copy 0 -1 = index");
        for (int what : new int[] {-1, 2, Integer.MIN_VALUE, Integer.MAX_VALUE}) {
            test(18, "what " + what + " is out of range",
                "job 2 \n copy 0 " + what + " = argument \n copy 1 " + what + " = argument");
        }
        test(18, "a job that was refused has no copies", "job 201 = argument \n copy 0 0 = index");
    }

    // ---- promise 19

    private static void next() {
        test(19, "without a job: NONE", "next = -1");
        test(19, "without a job, behind copies: NONE", "print 5 \n next = -1");
        test(19, "of a new job: 0", "job 5 \n next = 0");
        test(19, "behind a good copy: the next", "job 5 \n print 1 \n next = 1 \n print 3 \n next = 4");
        test(19, "behind the last good copy: NONE", "job 5 \n print 5 \n next = -1");
        test(19, "behind more copies than the job has: NONE", "job 5 \n print 6 \n next = -1");
        test(19, "behind waste: the next, and the waste last",
            "job 2 \n tear \n print 1 \n next = 1 \n print 1 \n next = 0");
        test(19, "of one copy that is waste: the same again", "job 1 \n tear \n print 1 \n next = 0");
        test(19, "asked again: the same", "job 2 \n print 1 \n 5 * next = 1 \n print 1 \n 5 * next = -1");
        test(19, "a new job: 0 again", "job 2 \n print 2 \n next = -1 \n job 2 \n next = 0");
        test(19, "the last of 200: 199", "job 200 \n print 100 \n print 99 \n next = 199 \n print 1 \n next = -1");
    }

    // ---- promise 20

    private static void all() {
        test(20, "0: all copies that were printed, good and waste", "print 5 \n tear \n print 3 \n all 0 = 8");
        test(20, "1: those that were good", "print 5 \n tear \n print 3 \n all 1 = 5");
        test(20, "2: those that were waste", "print 5 \n tear \n print 3 \n all 2 = 3");
        test(20, "2: waste of each kind",
            "rules delay 0 \n tear \n print 20 \n key 0 0 100 \n print 2 \n correct 0 9 0 \n print 3 \n all 2 = 25");
        test(20, "3: waste by register", "rules delay 0 \n correct 0 3 0 \n print 7 = 0 \n all 3 = 7 \n all 4 = 0");
        test(20, "4: waste by densities", "key 0 0 100 \n print 7 = 0 \n all 4 = 7 \n all 3 = 0");
        test(20, "4: waste by register is not among those by densities", """
            rules delay 0
            key 0 0 100
            correct 0 3 0
            print 7 = 0
            all 3 = 7
            all 4 = 0
            all 2 = 7
            """);
        test(20, "3 and 4: a web that is led in is among neither", """
            rules delay 0
            key 0 0 100
            correct 0 3 0
            tear
            print 20 = 0
            all 3 = 0
            all 4 = 0
            all 2 = 20
            print 1 = 0
            all 3 = 1
            """);
        test(20, "4: the web that is led in is not among those by densities alone",
            "key 0 0 100 \n tear \n print 21 = 0 \n all 4 = 1");
        test(20, "4: a copy with several wrong densities counts once",
            "each 0 7 key 0 # 100 \n each 0 7 key 3 # 0 \n print 1 = 0 \n all 4 = 1");
        test(20, "3: a copy with several wrong registers counts once",
            "rules delay 0 \n each 0 2 correct # 9 9 \n print 1 = 0 \n all 3 = 1");
        test(20, "5: copies of the job that are not good yet", "job 30 \n print 8 = 8 \n all 5 = 22");
        test(20, "5: waste leaves them as many", "job 30 \n tear \n print 8 = 0 \n all 5 = 30");
        test(20, "5: none behind the job", "job 30 \n print 40 = 40 \n all 5 = 0");
        test(20, "5: none without a job", "print 40 = 40 \n all 5 = 0");
        test(20, "6: corrections that are to come",
            "correct 0 1 1 \n correct 3 0 0 \n all 6 = 2 \n print 9 \n all 6 = 2 \n print 1 \n all 6 = 0");
        test(20, "6: up to 20", "20 * correct 0 1 1 \n correct 0 1 1 = state \n all 6 = 20");
        test(20, "6: none that counted at once", "rules delay 0 \n correct 0 1 1 \n all 6 = 0");
        test(20, "copies without a number are among the sums", "print 9 = 9 \n all 0 = 9 \n all 1 = 9");
    }

    private static void allRefused() {
        for (int what : new int[] {-1, 7, Integer.MIN_VALUE, Integer.MAX_VALUE}) {
            test(20, "what " + what + " is out of range", "all " + what + " = argument");
        }
        test(20, "what 0 is the least and 6 the most", "all 0 = 0 \n all 6 = 0");
    }

    // Terms: questions change nothing

    private static void questionsChangeNothing() {
        String ahead = """
            colour 0 20 40 60
            plates
            sign
            job 3
            drift 0 1 0
            correct 1 1 0
            tear
            print 5
            types black 1
            """;
        String behind = """
            type 48 = 8
            apply = 1
            plates = 4
            print 16 = 1
            next = 0
            all 0 = 21
            unit 0 0 = 2
            unit 1 0 = 1
            job 1 = state
            differs 0 = 64
            """;
        test(20, "without a question between", ahead + behind);
        ask(15, "ink", "each 0 4 ink 0 0 # \n each 0 4 ink 63 3 # \n ink 64 0 0 = index \n ink 0 0 5 = argument \n",
            ahead, behind);
        ask(16, "dot", "each 0 3 dot 0 # \n each 0 63 dot # 0 \n dot 64 0 = index \n", ahead, behind);
        ask(17, "unit", "each 0 9 unit 0 # \n each 0 9 unit 3 # \n unit 4 0 = index \n unit 0 10 = argument \n", ahead,
            behind);
        ask(18, "copy", "each 0 2 copy # 0 \n each 0 2 copy # 1 \n copy 3 0 = index \n copy 0 2 = argument \n", ahead,
            behind);
        ask(19, "next", "10 * next \n", ahead, behind);
        ask(20, "all", "each 0 6 all # \n all 7 = argument \n", ahead, behind);
        ask(13, "differs", "each 0 63 differs # \n differs 64 = index \n", ahead, behind);
        ask(14, "claim", "each 0 63 claim # \n claim 64 = index \n", ahead, behind);
    }

    private static void ask(int promise, String question, String rows, String ahead, String behind) {
        test(promise, "the question " + question + " changes nothing", ahead + rows + behind);
    }
}
