/** Tests of the promises 1 to 20, one method or more for each; ends with exit code 1 if an answer is wrong. */
public final class GravureHouseTest {
    private static final Class<? extends RuntimeException> INDEX = IndexOutOfBoundsException.class;
    private static final Class<? extends RuntimeException> ARGUMENT = IllegalArgumentException.class;
    private static final Class<? extends RuntimeException> STATE = IllegalStateException.class;

    private static int wrong = 0;
    private static int asked = 0;

    private GravureHouseTest() {
    }

    public static void main(String[] args) {
        newObject();
        colour();
        colourIsSplit();
        blackShare();
        limit();
        traps();
        type();
        applySets();
        applyRefuses();
        applyParts();
        plates();
        curves();
        drift();
        correct();
        correctTwenty();
        correctWithoutDelay();
        key();
        densities();
        tear();
        job();
        jobOfTwoHundred();
        print();
        printTwentyThousand();
        wasteByRegister();
        wasteByDensity();
        proofs();
        proofsByGain();
        ink();
        dot();
        unit();
        copy();
        next();
        all();
        System.out.println(asked + " asked, " + wrong + " wrong");
        if (wrong != 0) {
            System.exit(1);
        }
    }

    // ---- helpers

    private static void due(String what, long got, long want) {
        asked++;
        if (got != want) {
            wrong++;
            System.out.println(what + " answered " + got + ", due is " + want);
        }
    }

    private static void due(String what, boolean got, boolean want) {
        due(what, got ? 1 : 0, want ? 1 : 0);
    }

    private static void refused(String what, Class<? extends RuntimeException> due, Runnable call) {
        asked++;
        try {
            call.run();
        } catch (RuntimeException e) {
            if (e.getClass() == due) {
                return;
            }
            wrong++;
            System.out.println(what + " threw " + e + ", due is " + due.getName());
            return;
        }
        wrong++;
        System.out.println(what + " threw nothing, due is " + due.getName());
    }

    private static int typed(GravureHouse house, String rules) {
        for (int i = 0; i < rules.length(); i++) {
            house.type(rules.charAt(i));
        }
        return house.apply();
    }

    private static GravureHouse ruled(String rules) {
        GravureHouse house = new GravureHouse();
        typed(house, rules);
        return house;
    }

    private static void inks(String what, GravureHouse house, int cell, int stage, int... wants) {
        for (int ink = 0; ink < 4; ink++) {
            due(what + ", ink " + ink, house.ink(cell, ink, stage), wants[ink]);
        }
    }

    private static void print(GravureHouse house, int copies) {
        for (int left = copies; left > 0; left -= 100) {
            house.print(Math.min(left, 100));
        }
    }

    private static void refusedIndices(String what, java.util.function.IntConsumer call, int count) {
        for (int index : new int[] {-1, count, Integer.MIN_VALUE, Integer.MAX_VALUE}) {
            refused(what + " " + index, INDEX, () -> call.accept(index));
        }
    }

    private static void refusedArguments(String what, java.util.function.IntConsumer call, int least, int most) {
        for (int number : new int[] {least - 1, most + 1, Integer.MIN_VALUE, Integer.MAX_VALUE}) {
            refused(what + " " + number, ARGUMENT, () -> call.accept(number));
        }
    }

    // ---- promise 1

    private static void newObject() {
        GravureHouse house = new GravureHouse();
        for (int cell = 0; cell < 64; cell++) {
            for (int ink = 0; ink < 4; ink++) {
                for (int what = 0; what < 5; what++) {
                    due("new ink", house.ink(cell, ink, what), 0);
                }
                due("new dot", house.dot(cell, ink), false);
            }
        }
        for (int unit = 0; unit < 4; unit++) {
            due("new x", house.unit(unit, 0), 0);
            due("new y", house.unit(unit, 1), 0);
            for (int what = 2; what < 10; what++) {
                due("new density", house.unit(unit, what), 105);
            }
        }
        for (int what = 0; what < 7; what++) {
            due("new sum", house.all(what), 0);
        }
        due("new next", house.next(), GravureHouse.NONE);
        refused("new copy", INDEX, () -> house.copy(0, 0));
        refused("new differs", STATE, () -> house.differs(0));
        refused("new claim", STATE, () -> house.claim(0));
        due("NONE", GravureHouse.NONE, -1);
        due("CYAN", GravureHouse.CYAN, 0);
        due("MAGENTA", GravureHouse.MAGENTA, 1);
        due("YELLOW", GravureHouse.YELLOW, 2);
        due("BLACK", GravureHouse.BLACK, 3);
        due("two houses", new GravureHouse().type('a') + new GravureHouse().type('a'), 2);
    }

    // ---- promise 2

    private static void colour() {
        GravureHouse house = ruled("black 0");
        house.colour(0, 0, 100, 50);
        inks("cell 0", house, 0, 0, 100, 0, 50, 0);
        house.colour(63, 100, 0, 1);
        inks("cell 63", house, 63, 0, 0, 100, 99, 0);
        inks("cell 1", house, 1, 0, 0, 0, 0, 0);
        refusedIndices("colour", cell -> house.colour(cell, 1, 1, 1), 64);
        refusedArguments("red", red -> house.colour(0, red, 1, 1), 0, 100);
        refusedArguments("green", green -> house.colour(0, 1, green, 1), 0, 100);
        refusedArguments("blue", blue -> house.colour(0, 1, 1, blue), 0, 100);
        refused("colour: cell ahead of red", INDEX, () -> house.colour(64, 101, 0, 0));
        inks("cell 0 as it was", house, 0, 0, 100, 0, 50, 0);
    }

    private static void colourIsSplit() {
        GravureHouse house = new GravureHouse();
        house.colour(5, 20, 40, 60);
        inks("split", house, 5, 0, 60, 40, 20, 20);
        house.colour(5, 99, 97, 95);
        inks("black is rounded down", house, 5, 0, 1, 3, 5, 0);
        house.colour(5, 95, 0, 50);
        inks("black of 5", house, 5, 0, 3, 98, 48, 2);
    }

    private static void blackShare() {
        GravureHouse house = ruled("black 100");
        house.colour(0, 0, 0, 0);
        inks("all black", house, 0, 0, 0, 0, 0, 100);
        house.colour(0, 10, 50, 70);
        inks("black 100", house, 0, 0, 60, 20, 0, 30);
        typed(house, "black 99");
        inks("black 99", house, 0, 0, 61, 21, 1, 29);
        typed(house, "black 0");
        inks("black 0", house, 0, 0, 90, 50, 30, 0);
    }

    private static void limit() {
        GravureHouse house = ruled("black 0 limit 299");
        house.colour(0, 0, 0, 0);
        inks("just over the limit", house, 0, 0, 99, 99, 99, 0);
        typed(house, "limit 300");
        inks("at the limit", house, 0, 0, 100, 100, 100, 0);
        typed(house, "limit 200 black 50");
        inks("black counts, at the limit", house, 0, 0, 50, 50, 50, 50);
        typed(house, "limit 199");
        inks("black stays", house, 0, 0, 49, 49, 49, 50);
        house.colour(0, 0, 50, 90);
        typed(house, "black 20 limit 100");
        inks("each by its own", house, 0, 0, 62, 30, 5, 2);
        house.colour(0, 0, 0, 0);
        typed(house, "black 100");
        inks("black alone at the limit", house, 0, 0, 0, 0, 0, 100);
    }

    private static void traps() {
        GravureHouse house = ruled("trap 1 black 0");
        house.colour(27, 40, 40, 40);
        house.colour(19, 30, 80, 80);
        house.colour(35, 80, 20, 80);
        house.colour(26, 80, 80, 10);
        house.colour(28, 41, 39, 41);
        inks("from all four sides", house, 27, 1, 70, 80, 90, 0);
        inks("ahead of traps", house, 27, 0, 60, 60, 60, 0);
        house.colour(28, 0, 60, 60);
        inks("a side that is as light gives nothing", house, 27, 1, 70, 80, 90, 0);
        house.colour(28, 0, 61, 60);
        inks("a lighter side gives", house, 27, 1, 100, 80, 90, 0);
        inks("a darker side gives nothing", house, 28, 1, 100, 39, 40, 0);
        typed(house, "trap 0");
        inks("without traps", house, 27, 1, 60, 60, 60, 0);
        trapsAtEdges();
        trapsWithBlack();
    }

    private static void trapsAtEdges() {
        GravureHouse house = ruled("trap 1 black 0");
        house.colour(7, 10, 10, 10);
        house.colour(8, 5, 90, 100);
        inks("the row's end is no side of the next", house, 7, 1, 90, 90, 90, 0);
        house.colour(8, 10, 10, 10);
        house.colour(7, 5, 90, 100);
        inks("the row's beginning is no side of the row ahead", house, 8, 1, 90, 90, 90, 0);
        house.colour(0, 10, 10, 10);
        inks("a corner", house, 0, 1, 90, 90, 90, 0);
        house.colour(63, 10, 10, 10);
        house.colour(55, 0, 50, 50);
        house.colour(62, 50, 0, 50);
        inks("the last corner", house, 63, 1, 100, 100, 90, 0);
        house.colour(1, 10, 0, 30);
        house.colour(9, 50, 0, 30);
        inks("not by two steps", house, 0, 1, 90, 100, 90, 0);
        house = ruled("trap 1 black 0");
        inks("white", house, 9, 1, 0, 0, 0, 0);
        house.colour(10, 90, 90, 90);
        inks("white beside a darker one", house, 9, 1, 0, 0, 0, 0);
        house.colour(0, 0, 50, 50);
        house.colour(8, 10, 30, 10);
        house.colour(9, 10, 10, 70);
        inks("the first row is above the second", house, 8, 1, 100, 90, 90, 0);
        inks("the first column is ahead of the second", house, 1, 1, 0, 0, 0, 0);
        house.colour(1, 10, 20, 10);
        inks("sides in the first column and below", house, 1, 1, 100, 90, 90, 0);
        house.colour(62, 40, 10, 10);
        house.colour(63, 80, 0, 30);
        inks("the last column is behind the last but one", house, 62, 1, 60, 100, 90, 0);
        house.colour(55, 20, 10, 20);
        inks("the last row is below the last but one", house, 55, 1, 80, 100, 80, 0);
    }

    private static void trapsWithBlack() {
        GravureHouse house = ruled("trap 1");
        house.colour(0, 0, 0, 0);
        house.colour(1, 40, 40, 0);
        inks("traps and black", house, 0, 1, 50, 50, 70, 50);
        typed(house, "trap 1 black 0 limit 100");
        house.colour(1, 0, 50, 80);
        inks("traps are not less by the limit", house, 0, 1, 58, 33, 33, 0);
    }

    // ---- promise 3

    private static void type() {
        GravureHouse house = new GravureHouse();
        String signs = "az09 ";
        for (int i = 0; i < signs.length(); i++) {
            due("type", house.type(signs.charAt(i)), i + 1);
        }
        for (char sign : new char[] {'`', '{', '/', ':', '\t', 'A', 'Z', 0, 127, 228, 256 + 'a', 0xFF11, 0xFFFF}) {
            refused("type " + (int) sign, ARGUMENT, () -> house.type(sign));
        }
        for (int i = 5; i < 60; i++) {
            due("type", house.type('x'), i + 1);
        }
        refused("type the 61st", STATE, () -> house.type('x'));
        refused("type a wrong 61st", ARGUMENT, () -> house.type('X'));
        due("sixty signs", house.apply(), -1);
        due("type again", house.type(' '), 1);
    }

    // ---- promise 4

    private static void applySets() {
        GravureHouse house = new GravureHouse();
        due("nothing typed", house.apply(), 0);
        due("blanks alone", typed(house, "   "), 0);
        due("one rule", typed(house, "black 7"), 1);
        due("blanks around", typed(house, "  limit   100 trap  0  "), 2);
        due("six rules", typed(house, "black 50 limit 300 trap 0 gain 3 20 tolerance 2 delay 10"), 6);
        due("fewer figures", typed(house, "black 0 limit 100 trap 0 gain 0 0 delay 0"), 5);
        due("highest numbers", typed(house, "black 100 limit 400 trap 1 gain 3 40 tolerance 9 delay 50"), 6);
        due("zeros ahead", typed(house, "black 050 trap 000 gain 003 007"), 3);
        house.colour(0, 0, 0, 0);
        typed(house, "black 10 black 20");
        due("the later rule counts", house.ink(0, 3, 0), 20);
        due("gone", house.apply(), 0);
        due("nothing but typing changes", house.ink(0, 3, 0), 20);
        house.type('b');
        typed(house, "lack 30");
        due("typed in pieces", house.ink(0, 3, 0), 30);
        for (char sign : "black 40".toCharArray()) {
            house.type(sign);
        }
        due("not ahead of apply", house.ink(0, 3, 0), 30);
    }

    private static void applyRefuses() {
        GravureHouse house = new GravureHouse();
        String[] firsts = {"black", "black x", "black 101", "black 0050", "black 1000", "black 5x", "blac 5",
            "blacks 5", "slack 5", "blank 5", "crap 1", "again 1 1", "black5", "5", "50 black", "limit 99",
            "limit 401", "limit", "trap 2", "trap", "gain 4 1", "gain 1", "gain", "gain 1 41", "gain x 1", "gain 1 x",
            "gain 0001 5", "gain 1 black 5", "tolerance 10", "tolerance", "delay 51", "delay", "delay delay", "x",
            "0", "tint 1"};
        for (String rules : firsts) {
            due("apply " + rules, typed(house, rules), -1);
        }
        due("the second rule", typed(house, "black 10 trap 2"), -3);
        due("a number too many", typed(house, "black 10 20"), -3);
        due("behind gain", typed(house, "gain 1 2 limit"), -4);
        due("behind gain, a number", typed(house, "gain 1 2 3"), -4);
        due("the third rule", typed(house, "  trap 1   gain 1 2  nothing "), -6);
        due("the first of two", typed(house, "trap 2 black 101"), -1);
    }

    private static void applyParts() {
        GravureHouse house = new GravureHouse();
        house.colour(0, 0, 0, 0);
        house.colour(1, 0, 90, 90);
        due("refused at the end", typed(house, "black 10 limit 100 trap 1 tolerance x"), -7);
        inks("nothing is applied", house, 0, 1, 50, 50, 50, 50);
        due("what was refused is gone", house.apply(), 0);
        due("thirty parts", typed(house, "black 1 black 2 black 3 black 4 black 5 black 6 black 7 trap"), -15);
        due("narrow parts", typed(house, "a b c d e f g h i j k l m n o p q r s t u v w x y z a b c d"), -1);
        due("black as it was", house.ink(0, 3, 0), 50);
    }

    // ---- promise 5

    private static void plates() {
        GravureHouse house = new GravureHouse();
        due("plates of white", house.plates(), 0);
        house.colour(0, 20, 40, 60);
        inks("ahead of plates", house, 0, 3, 0, 0, 0, 0);
        due("four tints", house.plates(), 4);
        inks("behind plates", house, 0, 3, 41, 25, 12, 12);
        due("nothing new", house.plates(), 0);
        house.colour(0, 20, 40, 59);
        due("still as before", house.ink(0, 2, 3), 12);
        due("one ink more", house.plates(), 1);
        typed(house, "gain 1 0");
        due("by the gain", house.plates(), 1);
        due("without gain", house.ink(0, 1, 3), 40);
        house.colour(0, 100, 100, 100);
        due("white again", house.plates(), 4);
        for (int cell = 0; cell < 64; cell++) {
            house.colour(cell, 0, 0, 0);
        }
        due("all", house.plates(), 256);
    }

    private static void curves() {
        GravureHouse house = ruled("black 0 gain 0 0 gain 2 40");
        for (int wanted = 0; wanted <= 100; wanted++) {
            house.colour(0, 100 - wanted, 100 - wanted, 100 - wanted);
            house.plates();
            for (int ink = 0; ink < 3; ink++) {
                int tint = house.ink(0, ink, 3);
                due("as it would be", house.ink(0, ink, 2), tint);
                int gain = 20 * ink;
                due("prints", house.ink(0, ink, 4), tint + gain * tint * (100 - tint) / 2500);
                due("enough", house.ink(0, ink, 4) >= wanted, true);
                for (int less = 0; less < tint; less++) {
                    due("none that is less", less + gain * less * (100 - less) / 2500 < wanted, true);
                }
            }
        }
        inks("the full tints", house, 0, 3, 100, 100, 63, 0);
        inks("the full tints print", house, 0, 4, 100, 100, 100, 0);
        typed(house, "gain 0 40 gain 1 40");
        house.colour(0, 20, 25, 0);
        typed(house, "gain 0 0 gain 1 0");
        house.plates();
        typed(house, "gain 0 40 gain 1 40");
        due("prints above 100", house.ink(0, 0, 4), 105);
        due("prints above 100, rounded down", house.ink(0, 1, 4), 105);
    }

    // ---- promise 6

    private static void drift() {
        GravureHouse house = ruled("tolerance 9");
        house.drift(0, 5, -5);
        house.drift(3, -1, 1);
        house.print(9);
        due("not yet", house.unit(0, 0), 0);
        house.print(1);
        due("x", house.unit(0, 0), 5);
        due("y", house.unit(0, 1), -5);
        due("x of black", house.unit(3, 0), -1);
        due("y of black", house.unit(3, 1), 1);
        due("x of another", house.unit(1, 0), 0);
        house.print(5);
        house.drift(0, 0, 2);
        house.print(5);
        due("the drift that is then", house.unit(0, 0), 5);
        due("y by the drift that is then", house.unit(0, 1), -3);
        house.tear();
        house.print(20);
        due("waste counts", house.unit(0, 1), 1);
        refusedIndices("drift", unit -> house.drift(unit, 0, 0), 4);
        refusedArguments("drift x", x -> house.drift(0, x, 0), -5, 5);
        refusedArguments("drift y", y -> house.drift(0, 0, y), -5, 5);
        refused("drift: unit ahead of x", INDEX, () -> house.drift(-1, 6, 0));
        house.print(10);
        due("refused drifts change nothing", house.unit(0, 1), 3);
    }

    // ---- promise 7

    private static void correct() {
        GravureHouse fresh = new GravureHouse();
        fresh.correct(3, 1, 2);
        fresh.print(9);
        due("the delay at first: not yet", fresh.unit(3, 1), 0);
        fresh.print(1);
        due("the delay at first: now", fresh.unit(3, 1), 2);
        GravureHouse house = ruled("delay 3");
        due("first", house.correct(0, 50, -50), 1);
        house.print(2);
        due("not yet", house.unit(0, 0), 0);
        due("second", house.correct(1, 1, 2), 2);
        due("two to come", house.all(6), 2);
        due("the copy is looked at ahead of it", house.print(1), 1);
        due("x", house.unit(0, 0), 50);
        due("y", house.unit(0, 1), -50);
        due("one to come", house.all(6), 1);
        typed(house, "delay 50");
        due("the delay of when it is told", house.correct(1, 3, 3), 2);
        house.print(2);
        due("the second came", house.unit(1, 1), 2);
        due("one to come still", house.all(6), 1);
        typed(house, "delay 1");
        due("a later one comes earlier", house.correct(1, 10, 10), 2);
        house.print(1);
        due("it came", house.unit(1, 0), 11);
        due("the long one", house.all(6), 1);
        house.print(46);
        due("not behind 49", house.unit(1, 0), 11);
        house.print(1);
        due("behind 50", house.unit(1, 0), 14);
        due("none to come", house.all(6), 0);
        refusedIndices("correct", unit -> house.correct(unit, 0, 0), 4);
        refusedArguments("correct x", x -> house.correct(0, x, 0), -50, 50);
        refusedArguments("correct y", y -> house.correct(0, 0, y), -50, 50);
        refused("correct: unit ahead of x", INDEX, () -> house.correct(4, 51, 0));
        due("refused ones are not to come", house.all(6), 0);
    }

    private static void correctTwenty() {
        GravureHouse house = new GravureHouse();
        for (int i = 1; i <= 20; i++) {
            due("to come", house.correct(i % 4, 1, 0), i);
        }
        refused("the 21st", STATE, () -> house.correct(0, 0, 0));
        refused("a wrong 21st", ARGUMENT, () -> house.correct(0, 51, 0));
        refused("the 21st of no unit", INDEX, () -> house.correct(4, 51, 0));
        typed(house, "delay 0");
        refused("the 21st without delay", STATE, () -> house.correct(0, 5, 0));
        due("the registers as they were", house.unit(0, 0), 0);
        house.print(10);
        due("five of a unit", house.unit(0, 0), 5);
        due("all came", house.all(6), 0);
        due("again", house.correct(0, 1, 0), 0);
    }

    private static void correctWithoutDelay() {
        GravureHouse house = new GravureHouse();
        house.correct(2, 1, 1);
        typed(house, "delay 0");
        due("at once", house.correct(2, -7, 8), 0);
        due("x", house.unit(2, 0), -7);
        due("y", house.unit(2, 1), 8);
        due("the one ahead is to come", house.all(6), 1);
        due("waste at once", house.print(1), 0);
        house.print(9);
        due("it came behind the drift", house.unit(2, 0), -6);
    }

    // ---- promise 8

    private static void key() {
        GravureHouse house = new GravureHouse();
        due("first setting", house.key(0, 0, 0), 50);
        due("second setting", house.key(0, 0, 100), 0);
        due("third setting", house.key(0, 0, 51), 100);
        due("last key", house.key(3, 7, 49), 50);
        due("density by the key", house.unit(0, 2), 106);
        due("density of the last key", house.unit(3, 9), 104);
        due("density of another", house.unit(0, 9), 105);
        due("density of another unit", house.unit(1, 2), 105);
        refusedIndices("key of", unit -> house.key(unit, 0, 0), 4);
        refusedIndices("key", column -> house.key(0, column, 0), 8);
        refusedArguments("setting", setting -> house.key(0, 0, setting), 0, 100);
        refused("key: column ahead of setting", INDEX, () -> house.key(0, 8, 101));
        due("refused settings change nothing", house.key(0, 0, 51), 51);
    }

    private static void densities() {
        GravureHouse house = ruled("gain 0 0 black 0");
        for (int row = 0; row < 8; row++) {
            house.colour(row * 8 + 3, 0, 100, 100);
        }
        house.plates();
        due("m is 50", house.unit(0, 5), 95);
        due("another column", house.unit(0, 4), 105);
        due("another unit", house.unit(1, 5), 105);
        house.colour(3, 79, 100, 100);
        house.plates();
        due("721: m is 40", house.unit(0, 5), 96);
        house.colour(3, 81, 100, 100);
        house.plates();
        due("719: m is 39", house.unit(0, 5), 97);
        for (int row = 0; row < 8; row++) {
            house.colour(row * 8 + 3, row < 4 ? 0 : 100, 100, 100);
        }
        house.plates();
        due("400", house.unit(0, 5), 100);
        house.colour(3, 79, 100, 100);
        house.plates();
        due("321: m is -9", house.unit(0, 5), 100);
        house.colour(3, 80, 100, 100);
        house.plates();
        due("320: m is -10", house.unit(0, 5), 101);
        house.key(0, 3, 0);
        due("the lowest key", house.unit(0, 5), 51);
    }

    // ---- promise 9

    private static void tear() {
        GravureHouse house = new GravureHouse();
        due("tear", house.tear(), 20);
        due("ten are waste", house.print(10), 0);
        due("tear again", house.tear(), 20);
        due("twenty from then on", house.print(20), 0);
        due("good again", house.print(1), 1);
        due("waste of neither kind", house.all(3) + house.all(4), 0);
        due("waste", house.all(2), 30);
        house.tear();
        due("the last of 21", house.print(21), 1);
    }

    // ---- promise 10

    private static void job() {
        GravureHouse house = new GravureHouse();
        refusedArguments("job", house::job, 1, 200);
        house.job(2);
        due("first", house.next(), 0);
        refused("job with copies to print", STATE, () -> house.job(1));
        refused("wrong job with copies to print", ARGUMENT, () -> house.job(201));
        due("to print", house.all(5), 2);
        house.print(1);
        refused("job with a copy to print", STATE, () -> house.job(1));
        house.tear();
        house.print(20);
        refused("job with a copy to print again", STATE, () -> house.job(1));
        house.print(1);
        due("printed often", house.copy(1, 1), 21);
        house.job(1);
        due("new copy", house.copy(0, 1), 0);
        due("new copy is not good", house.copy(0, 0), 0);
        refused("copy of the job ahead", INDEX, () -> house.copy(1, 0));
        house.print(1);
        house.job(3);
        due("copies anew", house.copy(1, 1), 0);
        due("to print anew", house.all(5), 3);
    }

    private static void jobOfTwoHundred() {
        GravureHouse house = new GravureHouse();
        house.job(200);
        due("to print", house.all(5), 200);
        house.tear();
        due("a hundred", house.print(100), 80);
        due("next", house.next(), 100);
        due("all the others", house.print(100), 100);
        due("waste comes last", house.next(), 0);
        due("nineteen", house.print(19), 19);
        due("the last", house.next(), 19);
        due("beyond", house.print(5), 5);
        due("done", house.next(), GravureHouse.NONE);
        for (int copy = 0; copy < 200; copy++) {
            due("good", house.copy(copy, 0), 1);
            due("times", house.copy(copy, 1), copy < 20 ? 2 : 1);
        }
        house.job(200);
        house.drift(0, 5, 0);
        house.print(100);
        house.print(100);
        house.print(100);
        due("good ahead of the drift", house.copy(5, 1), 1);
        due("times by then", house.copy(105, 1), 2);
        due("times of the others", house.copy(106, 1), 1);
        due("next by then", house.next(), 106);
    }

    // ---- promise 11

    private static void print() {
        GravureHouse house = new GravureHouse();
        refusedArguments("print", house::print, 1, 100);
        due("nothing printed", house.all(0), 0);
        due("one", house.print(1), 1);
        due("a hundred", house.print(100), 100);
        due("printed", house.all(0), 101);
        house.job(3);
        due("copies beyond the job", house.print(10), 10);
        due("job done", house.all(5), 0);
        house.tear();
        due("some", house.print(25), 5);
        due("good", house.all(1), 116);
        due("waste", house.all(2), 20);
        wasteIsPrintedAgain();
    }

    private static void wasteIsPrintedAgain() {
        GravureHouse house = new GravureHouse();
        house.job(4);
        house.print(1);
        house.key(0, 0, 100);
        house.print(2);
        due("the third", house.next(), 3);
        house.key(0, 0, 50);
        house.print(1);
        due("behind all", house.next(), 1);
        house.key(0, 0, 100);
        house.print(1);
        due("behind again", house.next(), 2);
        house.key(0, 0, 50);
        house.print(1);
        due("the last", house.next(), 1);
        due("times", house.copy(1, 1), 2);
        house.print(1);
        due("times at last", house.copy(1, 1), 3);
        due("none", house.next(), GravureHouse.NONE);
    }

    private static void printTwentyThousand() {
        GravureHouse house = new GravureHouse();
        print(house, 19950);
        refused("51 more", STATE, () -> house.print(51));
        refused("101 more", ARGUMENT, () -> house.print(101));
        due("nothing of it printed", house.all(0), 19950);
        due("50 more", house.print(50), 50);
        refused("one more", STATE, () -> house.print(1));
        refused("none more", ARGUMENT, () -> house.print(0));
        due("printed", house.all(0), 20000);
        due("good", house.all(1), 20000);
    }

    private static void wasteByRegister() {
        GravureHouse house = ruled("delay 0");
        house.correct(0, 2, -2);
        due("within the tolerance", house.print(1), 1);
        house.correct(1, -3, 0);
        due("x is off", house.print(1), 0);
        house.correct(1, 3, 3);
        due("y is off", house.print(1), 0);
        house.correct(1, 0, -3);
        due("right again", house.print(1), 1);
        house.correct(3, -1, 0);
        due("black is off", house.print(1), 0);
        due("by register", house.all(3), 3);
        for (int unit = 0; unit < 4; unit++) {
            house.correct(unit, 50, 50);
        }
        house.correct(3, 1, 0);
        due("all are off by as much", house.print(1), 1);
        typed(house, "tolerance 0");
        due("no tolerance", house.print(1), 0);
        house.correct(0, -2, 2);
        due("no tolerance, and right", house.print(1), 1);
        house.correct(2, 9, -9);
        typed(house, "tolerance 9");
        due("the most tolerance", house.print(1), 1);
        house.correct(2, 1, 0);
        due("above the most tolerance", house.print(1), 0);
        typed(house, "tolerance 2 delay 1");
        house.correct(2, -10, 9);
        due("looked at ahead of the correction", house.print(1), 0);
        due("behind the correction", house.print(1), 1);
    }

    private static void wasteByDensity() {
        GravureHouse house = new GravureHouse();
        house.key(0, 0, 55);
        due("110", house.print(1), 1);
        house.key(0, 0, 56);
        due("111", house.print(1), 0);
        house.key(0, 0, 35);
        due("90", house.print(1), 1);
        house.key(0, 0, 34);
        due("89", house.print(1), 0);
        house.key(0, 0, 50);
        house.key(3, 7, 34);
        due("the last column of the last unit", house.print(1), 0);
        due("by densities", house.all(4), 3);
        house.drift(1, 5, 0);
        house.print(5);
        due("by densities too", house.all(4), 8);
        house.print(1);
        due("by register first", house.all(3), 1);
        due("not by densities", house.all(4), 8);
        house.tear();
        house.print(20);
        due("of neither", house.all(3) + house.all(4), 9);
        due("waste", house.all(2), 29);
    }

    // ---- promises 12 to 14

    private static void proofs() {
        GravureHouse house = new GravureHouse();
        due("a proof of white", house.sign(), 0);
        due("no difference", house.differs(0), 0);
        house.colour(0, 20, 40, 60);
        due("the picture is not printed", house.differs(0), 0);
        house.plates();
        due("the plates are", house.differs(0), 140);
        due("claim", house.claim(0), true);
        due("another cell", house.differs(1), 0);
        due("another cell's claim", house.claim(1), false);
        due("a proof", house.sign(), 140);
        due("in place of the one ahead", house.differs(0), 0);
        house.colour(0, 100, 100, 100);
        house.plates();
        due("less counts as more", house.differs(0), 140);
        house.colour(63, 100, 95, 100);
        house.plates();
        due("sum of the other cell", house.sign(), house.ink(63, 1, 4));
        refusedIndices("differs", house::differs, 64);
        refusedIndices("claim", house::claim, 64);
        GravureHouse bare = new GravureHouse();
        refused("differs without proof", STATE, () -> bare.differs(63));
        refused("claim without proof", STATE, () -> bare.claim(63));
        refusedIndices("differs without proof", bare::differs, 64);
        refusedIndices("claim without proof", bare::claim, 64);
    }

    private static void proofsByGain() {
        GravureHouse house = ruled("black 0 gain 0 0 gain 1 0 gain 2 0");
        house.colour(0, 95, 100, 100);
        house.sign();
        house.plates();
        due("five", house.differs(0), 5);
        due("five is not above five", house.claim(0), false);
        house.colour(0, 95, 99, 100);
        house.plates();
        due("six", house.differs(0), 6);
        due("six is", house.claim(0), true);
        house.sign();
        house.colour(0, 98, 96, 100);
        house.plates();
        due("more and less", house.differs(0), 6);
        house.colour(0, 50, 100, 100);
        house.plates();
        due("signed", house.sign(), 50);
        typed(house, "gain 0 40");
        due("by the gain", house.differs(0), 40);
        due("signed by the gain", house.sign(), 90);
    }

    // ---- promise 15

    private static void ink() {
        GravureHouse house = ruled("trap 1");
        house.colour(9, 100, 50, 0);
        house.colour(17, 60, 60, 60);
        inks("ahead of traps", house, 9, 0, 0, 50, 100, 0);
        inks("wanted", house, 9, 1, 20, 50, 100, 0);
        inks("would have", house, 9, 2, 12, 33, 100, 0);
        inks("has", house, 9, 3, 0, 0, 0, 0);
        inks("prints", house, 9, 4, 0, 0, 0, 0);
        house.plates();
        inks("has now", house, 9, 3, 12, 33, 100, 0);
        inks("prints now", house, 9, 4, 20, 50, 100, 0);
        typed(house, "gain 1 0");
        inks("would have by the gain", house, 9, 2, 12, 50, 100, 0);
        inks("prints by the gain", house, 9, 4, 20, 33, 100, 0);
        refusedIndices("ink of", cell -> house.ink(cell, 0, 0), 64);
        refusedIndices("ink", ink -> house.ink(0, ink, 0), 4);
        refusedArguments("ink's what", what -> house.ink(0, 0, what), 0, 4);
        refused("ink: cell ahead of what", INDEX, () -> house.ink(64, 0, 5));
        refused("ink: ink ahead of what", INDEX, () -> house.ink(0, 4, 5));
    }

    // ---- promise 16

    private static void dot() {
        GravureHouse house = ruled("black 0 gain 0 0 gain 1 0");
        int[] tints = {49, 1, 60, 100, 89, 49, 52, 49};
        boolean[] dots = {false, true, false, true, true, false, true, false};
        for (int column = 0; column < 8; column++) {
            house.colour(8 + column, 100 - tints[column], 100, 100);
        }
        house.colour(16, 51, 100, 100);
        house.colour(24, 50, 100, 100);
        due("by the plate alone", house.dot(9, 0), false);
        house.plates();
        for (int column = 0; column < 8; column++) {
            due("dot " + column, house.dot(8 + column, 0), dots[column]);
        }
        due("no error from the row ahead", house.dot(16, 0), false);
        due("49 is none", house.dot(16, 0), false);
        due("50 is one", house.dot(24, 0), true);
        due("another ink", house.dot(24, 1), false);
        house.colour(32, 0, 100, 100);
        house.colour(33, 50, 100, 100);
        house.colour(34, 0, 100, 100);
        house.plates();
        due("100 leaves no error", house.dot(33, 0), true);
        due("50 leaves -50", house.dot(34, 0), true);
        house.colour(24, 100, 100, 100);
        due("the plate as it is", house.dot(24, 0), true);
        refusedIndices("dot of", cell -> house.dot(cell, 0), 64);
        refusedIndices("dot", ink -> house.dot(0, ink), 4);
    }

    // ---- promise 17

    private static void unit() {
        GravureHouse house = ruled("delay 0");
        house.correct(1, 4, -6);
        house.key(1, 6, 60);
        due("x", house.unit(1, 0), 4);
        due("y", house.unit(1, 1), -6);
        due("density", house.unit(1, 8), 115);
        due("density ahead", house.unit(1, 7), 105);
        due("density of another", house.unit(2, 8), 105);
        refusedIndices("unit", unit -> house.unit(unit, 0), 4);
        refusedArguments("unit's what", what -> house.unit(0, what), 0, 9);
        refused("unit: unit ahead of what", INDEX, () -> house.unit(4, 10));
    }

    // ---- promise 18

    private static void copy() {
        GravureHouse house = new GravureHouse();
        refusedIndices("copy without a job", copy -> house.copy(copy, 0), 0);
        refused("copy without a job, and a wrong what", INDEX, () -> house.copy(0, 2));
        house.job(2);
        due("not good", house.copy(0, 0), 0);
        due("not printed", house.copy(0, 1), 0);
        house.tear();
        house.print(1);
        due("still not good", house.copy(0, 0), 0);
        due("printed once", house.copy(0, 1), 1);
        due("the other not yet", house.copy(1, 1), 0);
        house.print(20);
        due("good", house.copy(0, 0), 1);
        due("printed often", house.copy(0, 1), 11);
        house.print(30);
        due("not when it is good", house.copy(0, 1), 11);
        due("the other", house.copy(1, 1), 11);
        due("the other is good", house.copy(1, 0), 1);
        refusedIndices("copy", copy -> house.copy(copy, 0), 2);
        refusedArguments("copy's what", what -> house.copy(0, what), 0, 1);
        refused("copy: copy ahead of what", INDEX, () -> house.copy(2, 2));
    }

    // ---- promise 19

    private static void next() {
        GravureHouse house = new GravureHouse();
        due("no job", house.next(), GravureHouse.NONE);
        house.print(1);
        due("printed without a job", house.next(), GravureHouse.NONE);
        house.job(2);
        due("first", house.next(), 0);
        due("asked again", house.next(), 0);
        house.print(1);
        due("second", house.next(), 1);
        house.print(1);
        due("done", house.next(), GravureHouse.NONE);
        house.job(1);
        house.tear();
        house.print(5);
        due("the only one again", house.next(), 0);
    }

    // ---- promise 20

    private static void all() {
        GravureHouse house = new GravureHouse();
        house.job(30);
        house.correct(0, 1, 1);
        house.correct(0, 1, 1);
        house.print(5);
        house.tear();
        house.print(3);
        int[] wants = {8, 5, 3, 0, 0, 25, 2};
        for (int what = 0; what < 7; what++) {
            due("sum " + what, house.all(what), wants[what]);
        }
        refusedArguments("all", house::all, 0, 6);
    }
}
