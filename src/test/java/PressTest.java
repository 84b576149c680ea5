/** Promises 6 to 11: drift, corrections, keys, the web, jobs and the copies that are printed. */
public final class PressTest {
    private static final int[] NO_UNITS = {-1, 4, Integer.MIN_VALUE, Integer.MAX_VALUE};

    private PressTest() {
    }

    public static void main(String[] args) {
        driftComes();
        driftRefused();
        correctComes();
        correctCounts();
        correctAtOnce();
        correctRefused();
        key();
        keyRefused();
        tear();
        job();
        jobRefused();
        print();
        printRefused();
        printTwentyThousand();
        wasteByRegister();
        wasteByDensity();
        copiesAgain();
        Checks.end(6, 11);
    }

    private static void test(int promise, String sentence, String rows) {
        Checks.test(promise, sentence, rows);
    }

    private static void refused(int promise, String what, String call, int least, int most) {
        for (int number : new int[] {least - 1, most + 1, Integer.MIN_VALUE, Integer.MAX_VALUE}) {
            test(promise, what + " " + number + " is out of range", call.replace("#", "" + number) + " = argument");
        }
    }

    // ---- promise 6

    private static void driftComes() {
        test(6, "it comes behind 10 copies, not behind 9", """
            drift 0 1 2
            print 9
            unit 0 0 = 0
            unit 0 1 = 0
            print 1
            unit 0 0 = 1
            unit 0 1 = 2
            """);
        test(6, "it comes again behind the 20th, not ahead of it", """
            drift 0 1 2
            print 19
            unit 0 0 = 1
            print 1
            unit 0 0 = 2
            unit 0 1 = 4
            """);
        test(6, "it comes behind each 10 of one print", "drift 0 5 -5 \n print 100 \n unit 0 0 = 50 \n unit 0 1 = -50");
        test(6, "the 10th copy is looked at ahead of it", "drift 0 5 0 \n print 10 = 10 \n print 1 = 0");
        test(6, "the copies behind it in one print are looked at by it", "drift 0 0 3 \n print 20 = 10");
        test(6, "it is set at once: what counts is the drift that is then", """
            drift 0 1 1
            print 9
            drift 0 -5 5
            print 1
            unit 0 0 = -5
            unit 0 1 = 5
            """);
        test(6, "it comes by the copies printed in all, those ahead of its setting too", """
            print 7
            drift 0 1 1
            print 2
            unit 0 0 = 0
            print 1
            unit 0 0 = 1
            """);
        test(6, "waste counts among the 10", """
            drift 1 1 0
            tear
            print 5 = 0
            print 5 = 0
            unit 1 0 = 1
            """);
        test(6, "copies behind the job count among the 10", "job 3 \n drift 1 1 0 \n print 10 = 10 \n unit 1 0 = 1");
        test(6, "a drift of 0 again ends it",
            "drift 0 1 1 \n print 10 \n drift 0 0 0 \n print 10 \n unit 0 0 = 1 \n unit 0 1 = 1");
        test(6, "asking ahead of the first 10 brings none", "drift 0 1 1 \n unit 0 0 = 0 \n unit 0 1 = 0");
        for (int unit = 0; unit <= 3; unit++) {
            test(6, "unit " + unit + " drifts by itself", "drift " + unit + " 1 2 \n print 10 \n"
                + "each 0 " + (unit - 1) + " unit # 0 = 0 \n each " + (unit + 1) + " 3 unit # 1 = 0 \n"
                + "unit " + unit + " 0 = 1 \n unit " + unit + " 1 = 2");
        }
    }

    private static void driftRefused() {
        for (int end : new int[] {-5, 5}) {
            test(6, "x is " + end + " at an end of its range",
                "drift 2 " + end + " 0 \n print 10 \n unit 2 0 = " + end);
            test(6, "y is " + end + " at an end of its range",
                "drift 2 0 " + end + " \n print 10 \n unit 2 1 = " + end);
        }
        for (int unit : NO_UNITS) {
            test(6, "there is no unit " + unit, "drift " + unit + " 0 0 = index");
            test(6, "no unit " + unit + " is told ahead of a wrong x and y", "drift " + unit + " 6 -6 = index");
        }
        refused(6, "x", "drift 0 # 0", -5, 5);
        refused(6, "y", "drift 0 0 #", -5, 5);
        test(6, "a drift that is refused by x changes nothing", """
            drift 0 1 2
            drift 0 6 3 = argument
            print 10
            unit 0 0 = 1
            unit 0 1 = 2
            """);
        test(6, "a drift that is refused by y changes nothing", """
            drift 0 1 2
            drift 0 3 -6 = argument
            print 10
            unit 0 0 = 1
            unit 0 1 = 2
            """);
        test(6, "a drift of no unit changes none", """
            drift 4 1 1 = index
            drift -1 1 1 = index
            print 10
            each 0 3 unit # 0 = 0
            """);
    }

    // ---- promise 7

    private static void correctComes() {
        test(7, "a delay of 1 copy",
            "rules delay 1 \n correct 0 1 2 = 1 \n unit 0 0 = 0 \n print 1 \n unit 0 0 = 1 \n unit 0 1 = 2");
        test(7, "a delay of 50 copies", """
            rules delay 50
            correct 0 1 2 = 1
            print 49
            unit 0 0 = 0
            all 6 = 1
            print 1
            unit 0 0 = 1
            unit 0 1 = 2
            all 6 = 0
            """);
        test(7, "it comes once", "rules delay 1 \n correct 0 1 2 = 1 \n print 100 \n unit 0 0 = 1 \n unit 0 1 = 2");
        test(7, "it comes within a print", "rules delay 5 \n correct 0 3 0 = 1 \n print 20 = 5 \n unit 0 0 = 3");
        test(7, "the delay of when it is told, not a longer one of later", """
            rules delay 2
            correct 0 1 0 = 1
            rules delay 50
            print 2
            unit 0 0 = 1
            """);
        test(7, "the delay of when it is told, not a shorter one of later", """
            rules delay 3
            correct 0 1 0 = 1
            rules delay 0
            print 2
            unit 0 0 = 0
            print 1
            unit 0 0 = 1
            """);
        test(7, "it counts the copies printed behind it", """
            rules delay 3
            print 40
            correct 0 1 0 = 1
            print 2
            unit 0 0 = 0
            print 1
            unit 0 0 = 1
            """);
        test(7, "a later one may come earlier", """
            rules delay 20
            correct 0 1 0 = 1
            rules delay 2
            correct 1 2 0 = 2
            print 2
            unit 0 0 = 0
            unit 1 0 = 2
            all 6 = 1
            print 18
            unit 0 0 = 1
            """);
        test(7, "when one came, those behind it are still to come, as they were told", """
            rules delay 2
            correct 0 1 5
            rules delay 20
            correct 1 2 6 = 2
            rules delay 12
            correct 2 3 7 = 3
            print 2
            all 6 = 2
            unit 0 0 = 1
            unit 1 0 = 0
            unit 2 0 = 0
            print 9
            unit 2 0 = 0
            print 1
            unit 2 0 = 3
            unit 2 1 = 7
            print 7
            unit 1 0 = 0
            print 1
            unit 1 0 = 2
            unit 1 1 = 6
            unit 0 0 = 1
            unit 2 0 = 3
            """);
        test(7, "those that are due together are added", """
            correct 0 1 5 = 1
            correct 0 -3 2 = 2
            correct 1 4 0 = 3
            print 10
            unit 0 0 = -2
            unit 0 1 = 7
            unit 1 0 = 4
            """);
        test(7, "it is added behind the drift that comes then", """
            drift 0 2 -2
            correct 0 -2 2 = 1
            print 10 = 10
            unit 0 0 = 0
            unit 0 1 = 0
            print 1 = 1
            """);
        test(7, "a copy is looked at by the registers ahead of it", """
            rules delay 1
            correct 0 3 0 = 1
            print 1 = 1
            correct 0 -3 0 = 1
            print 1 = 0
            print 1 = 1
            """);
        test(7, "waste counts for the delay", "tear \n correct 0 1 0 = 1 \n print 10 = 0 \n unit 0 0 = 1");
        test(7, "the register has no bound that wraps or cuts it off", """
            rules delay 0
            200 * correct 0 50 -50 = 0
            unit 0 0 = 10000
            unit 0 1 = -10000
            """);
    }

    private static void correctCounts() {
        test(7, "how many are to come, with this one", "each 1 20 correct 0 0 0 = #");
        test(7, "those of all units are counted together", "each 0 3 correct # 1 1 \n correct 0 1 1 = 5 \n all 6 = 5");
        test(7, "those that came are not counted", "correct 0 1 0 = 1 \n print 10 \n correct 0 1 0 = 1");
        test(7, "the 20th is taken", "19 * correct 0 1 0 \n correct 0 1 0 = 20");
        test(7, "the 21st is refused", "20 * correct 0 1 0 \n correct 0 1 0 = state");
        test(7, "the 21st is refused, of another unit too",
            "20 * correct 0 1 0 \n correct 1 1 0 = state \n correct 3 0 0 = state");
        test(7, "when one came, the next is taken", """
            rules delay 1
            correct 0 1 0
            rules delay 9
            19 * correct 0 1 0
            correct 0 1 0 = state
            print 1
            correct 0 1 0 = 20
            correct 0 1 0 = state
            """);
        test(7, "all 20 come",
            "each 1 5 correct 0 1 0 \n each 1 15 correct 3 0 2 \n print 10 \n unit 0 0 = 5 \n unit 3 1 = 30 \n "
            + "all 6 = 0");
    }

    private static void correctAtOnce() {
        test(7, "without delay it counts at once",
            "rules delay 0 \n correct 2 -7 8 = 0 \n unit 2 0 = -7 \n unit 2 1 = 8");
        test(7, "without delay none is to come",
            "rules delay 0 \n correct 2 1 1 = 0 \n all 6 = 0 \n print 20 \n unit 2 0 = 1");
        test(7, "without delay the answer is 0, though others are to come", """
            correct 1 1 1 = 1
            rules delay 0
            correct 1 2 2 = 0
            all 6 = 1
            unit 1 0 = 2
            print 10
            unit 1 0 = 3
            """);
        test(7, "if 20 are to come, it is refused without delay too, and changes nothing", """
            20 * correct 1 1 1
            rules delay 0
            correct 1 2 2 = state
            unit 1 0 = 0
            all 6 = 20
            """);
        test(7, "if 19 are to come, it is taken without delay",
            "19 * correct 1 1 1 \n rules delay 0 \n 3 * correct 1 2 2 = 0 \n all 6 = 19");
        test(7, "without delay there is no 20th that is to come",
            "rules delay 0 \n 25 * correct 1 1 1 = 0 \n unit 1 0 = 25");
    }

    private static void correctRefused() {
        for (int end : new int[] {-50, 50}) {
            test(7, "x is " + end + " at an end of its range",
                "correct 3 " + end + " 0 = 1 \n print 10 \n unit 3 0 = " + end);
            test(7, "y is " + end + " at an end of its range",
                "correct 3 0 " + end + " = 1 \n print 10 \n unit 3 1 = " + end);
        }
        for (int unit : NO_UNITS) {
            test(7, "there is no unit " + unit, "correct " + unit + " 0 0 = index");
            test(7, "no unit " + unit + " is told ahead of a wrong x and y", "correct " + unit + " 51 -51 = index");
            test(7, "no unit " + unit + " is told ahead of 20 that are to come", "20 * correct 0 1 1 \n"
                + "correct " + unit + " 1 1 = index \n correct " + unit + " 51 1 = index");
        }
        refused(7, "x", "correct 0 # 0", -50, 50);
        refused(7, "y", "correct 0 0 #", -50, 50);
        test(7, "a wrong x is told ahead of 20 that are to come", "20 * correct 0 1 1 \n correct 0 51 0 = argument");
        test(7, "a wrong y is told ahead of 20 that are to come", "20 * correct 0 1 1 \n correct 0 0 -51 = argument");
        test(7, "one that is refused by x or y is not to come", """
            correct 0 51 1 = argument
            correct 0 1 -51 = argument
            all 6 = 0
            print 10
            unit 0 0 = 0
            unit 0 1 = 0
            """);
        test(7, "one that is refused without delay changes no register", """
            rules delay 0
            correct 0 51 1 = argument
            correct 0 1 -51 = argument
            unit 0 0 = 0
            unit 0 1 = 0
            """);
        test(7, "one of no unit is not to come", """
            correct 4 1 1 = index
            correct -1 1 1 = index
            all 6 = 0
            print 10
            each 0 3 unit # 0 = 0
            """);
        test(7, "the 21st is not to come",
            "20 * correct 0 1 1 \n correct 0 1 1 = state \n all 6 = 20 \n print 10 \n unit 0 0 = 20");
    }

    // ---- promise 8

    private static void key() {
        test(8, "the setting before is 50 at first", "key 0 0 51 = 50");
        test(8, "the setting before is the last one", "key 0 0 51 = 50 \n key 0 0 49 = 51 \n key 0 0 50 = 49");
        test(8, "a key that is set to what it is", "key 0 0 50 = 50 \n key 0 0 50 = 50");
        test(8, "0 is the least setting", "key 0 0 0 = 50 \n key 0 0 1 = 0 \n unit 0 2 = 56");
        test(8, "100 is the most setting", "key 0 0 100 = 50 \n unit 0 2 = 155 \n key 0 0 50 = 100");
        test(8, "column 7 of unit 3 is the last key",
            "key 3 7 60 = 50 \n unit 3 9 = 115 \n unit 3 8 = 105 \n unit 2 9 = 105");
        test(8, "column 0 of unit 0 is the first key",
            "key 0 0 40 = 50 \n unit 0 2 = 95 \n unit 0 3 = 105 \n unit 1 2 = 105");
        for (int unit = 0; unit <= 3; unit++) {
            test(8, "each column of unit " + unit + " has a key of its own", "each 0 7 key " + unit + " # # = 50 \n"
                + "each 0 7 key " + unit + " # 50 = # \n each 0 7 key " + ((unit + 1) % 4) + " # 50 = 50");
        }
    }

    private static void keyRefused() {
        for (int unit : NO_UNITS) {
            test(8, "there is no unit " + unit, "key " + unit + " 0 50 = index");
            test(8, "no unit " + unit + " is told ahead of a wrong setting", "key " + unit + " 0 101 = index");
        }
        for (int column : new int[] {-1, 8, Integer.MIN_VALUE, Integer.MAX_VALUE}) {
            test(8, "there is no column " + column, "key 0 " + column + " 50 = index");
            test(8, "no column " + column + " is told ahead of a wrong setting", "key 0 " + column + " -1 = index");
        }
        refused(8, "setting", "key 0 0 #", 0, 100);
        test(8, "a setting that is refused changes nothing", """
            key 0 0 101 = argument
            key 0 0 -1 = argument
            unit 0 2 = 105
            key 0 0 60 = 50
            """);
        test(8, "a key of no unit or column changes none", """
            key 0 8 60 = index
            key 1 -1 60 = index
            key 4 0 60 = index
            key 0 0 50 = 50
            key 0 7 50 = 50
            key 1 0 50 = 50
            key 3 7 50 = 50
            """);
    }

    // ---- promise 9

    private static void tear() {
        test(9, "how many are waste by it", "tear = 20");
        test(9, "as many when it broke ahead", "tear = 20 \n tear = 20 \n print 7 \n tear = 20");
        test(9, "the next 20 copies are waste", "tear \n print 20 = 0");
        test(9, "the 21st copy is good again", "tear \n print 20 = 0 \n print 1 = 1");
        test(9, "the 21st copy of one print is good again", "tear \n print 21 = 1");
        test(9, "the 20 go through more than one print", "tear \n print 19 = 0 \n print 2 = 1");
        test(9, "the copies ahead are as they were", "print 10 = 10 \n tear \n all 1 = 10 \n all 2 = 0");
        test(9, "broken again without a copy: 20 in all", "tear \n tear \n print 21 = 1");
        test(9, "broken again while it is led in: 20 from then on",
            "tear \n print 10 = 0 \n tear \n print 20 = 0 \n print 1 = 1");
        test(9, "broken again at its last copy: 20 from then on", "tear \n print 19 = 0 \n tear \n print 21 = 1");
        test(9, "broken again when it was led in: 20 from then on", "tear \n print 20 = 0 \n tear \n print 21 = 1");
        test(9, "it prints no copy by itself", "job 1 \n tear \n all 0 = 0 \n next = 0");
        test(9, "a new job does not lead it in", "tear \n print 5 \n job 20 \n print 20 = 5 \n all 5 = 15");
    }

    // ---- promise 10

    private static void job() {
        test(10, "1 copy is the least", "job 1 \n all 5 = 1 \n next = 0 \n print 2 = 2 \n next = -1");
        test(10, "200 copies are the most", "job 200 \n all 5 = 200 \n copy 199 0 = 0 \n copy 200 0 = index");
        test(10, "200 copies are numbered from 0 on, in their order", "job 200 \n" + numbersOneByOne(200));
        test(10, "a new one begins when all copies of the one ahead are good",
            "job 2 \n print 2 = 2 \n job 3 \n all 5 = 3 \n next = 0");
        test(10, "a new one has copies that are not printed and not good", """
            job 2
            print 2 = 2
            job 3
            each 0 2 copy # 0 = 0
            each 0 2 copy # 1 = 0
            """);
        test(10, "a new one with fewer copies has no others",
            "job 9 \n print 9 \n job 2 \n copy 1 0 = 0 \n copy 2 0 = index");
        test(10, "a new one behind waste begins with its own 0", """
            tear
            job 3
            print 25 = 5
            job 2
            next = 0
            print 1
            next = 1
            print 1
            next = -1
            """);
        test(10, "it may begin when copies without a number were printed",
            "print 30 = 30 \n job 2 \n next = 0 \n copy 0 1 = 0");
        test(10, "the sums of all copies go on", "job 2 \n print 2 \n job 2 \n all 0 = 2 \n all 1 = 2");
        test(10, "two hundred again, and all of them",
            "job 200 \n print 100 \n print 100 \n job 200 \n print 100 \n print 99 \n next = 199");
    }

    private static String numbersOneByOne(int copies) {
        StringBuilder rows = new StringBuilder();
        for (int copy = 0; copy < copies; copy++) {
            rows.append("next = ").append(copy).append("\nprint 1 = 1\n");
        }
        return rows.append("next = -1\n").toString();
    }

    private static void jobRefused() {
        refused(10, "copies", "job #", 1, 200);
        test(10, "a job that is refused by its copies begins none",
            "job 0 = argument \n job 201 = argument \n next = -1 \n all 5 = 0 \n copy 0 0 = index");
        test(10, "refused when none of the one ahead was printed", "job 1 \n job 1 = state");
        test(10, "refused when one copy of the one ahead is left", "job 20 \n print 19 = 19 \n job 1 = state");
        test(10, "refused when one copy of the one ahead is waste",
            "job 2 \n print 1 = 1 \n tear \n print 1 = 0 \n job 1 = state");
        test(10, "wrong copies are told ahead of a job that is not good yet",
            "job 1 \n job 0 = argument \n job 201 = argument");
        test(10, "a job that is refused by the one ahead changes nothing", """
            job 3
            print 1 = 1
            job 7 = state
            all 5 = 2
            next = 1
            copy 0 0 = 1
            copy 0 1 = 1
            copy 3 0 = index
            """);
        test(10, "a job that is refused by its copies leaves the one ahead", """
            job 3
            print 3 = 3
            job 201 = argument
            copy 2 0 = 1
            copy 2 1 = 1
            next = -1
            """);
    }

    // ---- promise 11

    private static void print() {
        test(11, "1 copy is the least", "print 1 = 1 \n all 0 = 1");
        test(11, "100 copies are the most", "print 100 = 100 \n all 0 = 100");
        test(11, "how many of these are good, not of all", "print 10 = 10 \n tear \n print 30 = 10 \n print 5 = 5");
        test(11, "without a job, copies are printed and have no number",
            "print 5 = 5 \n next = -1 \n all 1 = 5 \n copy 0 0 = index");
        test(11, "copies behind the job's are printed and have no number", """
            job 3
            print 10 = 10
            all 5 = 0
            next = -1
            each 0 2 copy # 1 = 1
            """);
    }

    private static void printRefused() {
        refused(11, "copies", "print #", 1, 100);
        test(11, "a print that is refused prints none", """
            job 3
            tear
            drift 0 0 1
            correct 0 1 0
            print 0 = argument
            print 101 = argument
            all 0 = 0
            all 6 = 1
            next = 0
            copy 0 1 = 0
            unit 0 0 = 0
            print 21 = 1
            unit 0 0 = 1
            unit 0 1 = 2
            """);
    }

    private static void printTwentyThousand() {
        String nearly = "199 * print 100 = 100 \n print 50 = 50 \n";
        test(11, "20000 are not too many", nearly + "print 50 = 50 \n all 0 = 20000 \n all 1 = 20000");
        test(11, "20001 are too many", nearly + "print 51 = state");
        test(11, "behind 20000 not one is printed", nearly + "print 50 = 50 \n print 1 = state \n all 0 = 20000");
        test(11, "waste is among the 20000", "tear \n 200 * print 100 \n all 1 = 19980 \n print 1 = state");
        test(11, "wrong copies are told ahead of too many",
            nearly + "print 50 \n print 0 = argument \n print 101 = argument");
        test(11, "of too many none is printed", nearly + """
            job 60
            print 51 = state
            all 0 = 19950
            next = 0
            all 5 = 60
            """);
    }

    // Terms, the press: what makes a copy waste

    private static void wasteByRegister() {
        for (int unit = 0; unit <= 2; unit++) {
            for (String off : new String[] {"# 0", "-# 0", "0 #", "0 -#"}) {
                String within = off.replace("#", "2");
                String beyond = off.replace("#", "3");
                test(11, "unit " + unit + " is off by " + within + ": within the tolerance", "rules delay 0 \n correct "
                    + unit + " " + within + " \n print 1 = 1 \n all 3 = 0");
                test(11, "unit " + unit + " is off by " + beyond + ": beyond the tolerance", "rules delay 0 \n correct "
                    + unit + " " + beyond + " \n print 1 = 0 \n all 3 = 1");
            }
        }
        for (String off : new String[] {"3 0", "-3 0", "0 3", "0 -3"}) {
            test(11, "the black one is off by " + off + " from the others",
                "rules delay 0 \n correct 3 " + off + " \n print 1 = 0");
        }
        test(11, "it is the black one from which the others must not be off", """
            rules delay 0
            correct 0 2 0
            correct 1 -2 0
            print 1 = 1
            """);
        test(11, "all units off by as much are right", "rules delay 0 \n each 0 3 correct # 50 -50 \n print 1 = 1");
        test(11, "tolerance 0: none may be off",
            "rules delay 0 tolerance 0 \n print 1 = 1 \n correct 0 1 0 \n print 1 = 0");
        test(11, "tolerance 9: 9 is within", "rules delay 0 tolerance 9 \n correct 0 9 -9 \n print 1 = 1");
        test(11, "tolerance 9: 10 is beyond", "rules delay 0 tolerance 9 \n correct 0 0 -10 \n print 1 = 0");
        test(11, "the tolerance is the one of when it is printed", """
            rules delay 0
            correct 0 4 0
            print 1 = 0
            rules tolerance 4
            print 1 = 1
            rules tolerance 3
            print 1 = 0
            """);
    }

    private static void wasteByDensity() {
        test(11, "density 110 is good", "key 0 0 55 \n unit 0 2 = 110 \n print 1 = 1");
        test(11, "density 111 is waste", "key 0 0 56 \n unit 0 2 = 111 \n print 1 = 0 \n all 4 = 1");
        test(11, "density 90 is good", "key 0 0 35 \n unit 0 2 = 90 \n print 1 = 1");
        test(11, "density 89 is waste", "key 0 0 34 \n unit 0 2 = 89 \n print 1 = 0 \n all 4 = 1");
        for (int unit = 0; unit <= 3; unit++) {
            for (int column = 0; column <= 7; column++) {
                test(11, "some column of some unit, " + unit + " and " + column, "key " + unit + " " + column
                    + " 56 \n print 1 = 0 \n key " + unit + " " + column + " 50 \n print 1 = 1");
            }
        }
        test(11, "the densities are those of the plates of when it is printed", """
            rules gain 0 0 black 0
            key 0 0 40
            print 1 = 1
            each 0 63 colour # 0 100 100
            print 1 = 1
            plates
            print 1 = 0
            all 4 = 1
            """);
    }

    // Terms, copies with numbers: what is waste is printed again

    private static void copiesAgain() {
        String waste = "key 0 0 100 \n print 1 = 0 \n key 0 0 50 \n";
        test(11, "a waste copy is printed again behind all that are to be printed", "job 3 \n" + waste + """
            next = 1
            print 1
            next = 2
            print 1
            next = 0
            print 1
            next = -1
            copy 0 1 = 2
            copy 1 1 = 1
            """);
        test(11, "waste copies are printed again in the order of their waste", "job 4 \n" + waste + waste + """
            next = 2
            print 2
            next = 0
            print 1
            next = 1
            """);
        test(11, "a copy that is waste again goes behind those that are by then", "job 3 \n" + waste + waste + """
            print 1
            next = 0
            """ + waste + """
            next = 1
            print 1
            next = 0
            print 1
            next = -1
            copy 0 1 = 3
            copy 1 1 = 2
            """);
        test(11, "the only copy that is left is printed again at once",
            "job 1 \n" + waste + waste + "next = 0 \n copy 0 1 = 2 \n print 1 \n next = -1");
        test(11, "waste that goes round 200 copies", """
            job 200
            tear
            print 100 = 80
            next = 100
            print 100 = 100
            next = 0
            print 19 = 19
            next = 19
            print 5 = 5
            next = -1
            each 0 19 copy # 1 = 2
            each 20 199 copy # 1 = 1
            each 0 199 copy # 0 = 1
            """);
        test(11, "200 copies that are all waste go round more than once", """
            job 200
            rules delay 0
            correct 0 3 0
            4 * print 100 = 0
            print 50 = 0
            next = 50
            each 0 49 copy # 1 = 3
            each 50 199 copy # 1 = 2
            correct 0 -3 0
            print 100 = 100
            next = 150
            print 100 = 100
            next = -1
            """);
        test(11, "a copy that was waste is counted as waste and, when it is printed again, as good",
            "job 1 \n" + waste + """
            print 1 = 1
            all 0 = 2
            all 1 = 1
            all 2 = 1
            copy 0 0 = 1
            """);
    }
}
