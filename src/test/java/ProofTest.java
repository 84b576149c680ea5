/** Promises 12 to 14: the proof, the differences to it and the claims by them. */
public final class ProofTest {
    private static final int[] NO_CELLS = {-1, 64, Integer.MIN_VALUE, Integer.MAX_VALUE};

    /** Rules by which an ink prints what its plate has, which is what is wanted. */
    private static final String PLAIN = "rules black 0 gain 0 0 gain 1 0 gain 2 0 \n";

    private ProofTest() {
    }

    public static void main(String[] args) {
        sign();
        differs();
        differsRefused();
        claim();
        claimRefused();
        Checks.end(12, 14);
    }

    private static void test(int promise, String sentence, String rows) {
        Checks.test(promise, sentence, rows);
    }

    // ---- promise 12

    private static void sign() {
        test(12, "a proof of plates of 0 tells 0 in all", "sign = 0");
        test(12, "it may be signed without plates: it is a proof", "sign \n differs 0 = 0 \n claim 0 = false");
        test(12, "it tells what is printed, not what is wanted",
            "colour 0 20 40 60 \n sign = 0 \n plates \n sign = 140");
        test(12, "it tells what is printed, not the plates' tints",
            "colour 0 80 80 80 \n plates = 4 \n ink 0 0 3 = 6 \n sign = 40");
        test(12, "its sum is over all inks", PLAIN + "colour 5 90 80 70 \n plates \n sign = 60");
        test(12, "its sum is over all cells, the first and the last too", PLAIN + """
            colour 0 90 100 100
            colour 63 100 100 80
            plates
            sign = 30
            """);
        test(12, "the greatest that full plates print",
            "rules black 0 \n each 0 63 colour # 0 0 0 \n plates \n sign = 19200");
        test(12, "black prints too", "rules black 100 gain 3 0 \n colour 0 0 0 0 \n plates \n sign = 100");
        test(12, "what prints above 100 is told as it is", """
            rules black 0 gain 0 0
            colour 0 20 100 100
            plates
            rules gain 0 40
            sign = 105
            """);
        test(12, "it is signed by the gains as they are", """
            rules black 0 gain 0 0
            colour 0 50 100 100
            plates
            sign = 50
            rules gain 0 40
            differs 0 = 40
            sign = 90
            differs 0 = 0
            """);
        test(12, "it stands in place of the one ahead", """
            sign
            colour 0 20 40 60
            plates
            differs 0 = 140
            sign = 140
            differs 0 = 0
            """);
        test(12, "signing changes no plates", "colour 0 20 40 60 \n plates \n sign \n plates = 0 \n ink 0 0 3 = 41");
    }

    // ---- promise 13

    private static void differs() {
        test(13, "without a change there is no difference",
            "colour 0 20 40 60 \n plates \n sign \n each 0 63 differs # = 0");
        test(13, "what is more counts", PLAIN + "sign \n colour 0 90 100 100 \n plates \n differs 0 = 10");
        test(13, "what is less counts as well",
            PLAIN + "colour 0 90 100 100 \n plates \n sign \n colour 0 100 100 100 \n plates \n differs 0 = 10");
        test(13, "what is more of one ink and less of another does not cancel out", PLAIN + """
            colour 0 90 100 100
            plates
            sign
            colour 0 100 90 100
            plates
            differs 0 = 20
            """);
        test(13, "it is the sum over all four inks", "sign \n colour 0 20 40 60 \n plates \n differs 0 = 140");
        test(13, "it is the difference of the cell alone", PLAIN + """
            sign
            colour 0 90 100 100
            colour 63 80 100 100
            plates
            differs 0 = 10
            differs 63 = 20
            each 1 62 differs # = 0
            """);
        test(13, "a picture whose plates are not made is not printed", "sign \n colour 0 0 0 0 \n differs 0 = 0");
        test(13, "the gains count as they are now", """
            rules black 0 gain 0 0
            colour 0 50 100 100
            plates
            sign = 50
            rules gain 0 40
            differs 0 = 40
            rules gain 0 0
            differs 0 = 0
            """);
        test(13, "asking changes neither the proof nor the plates", PLAIN + """
            sign
            colour 0 90 100 100
            plates
            3 * differs 0 = 10
            plates = 0
            """);
    }

    private static void differsRefused() {
        for (int cell : NO_CELLS) {
            test(13, "there is no cell " + cell, "sign \n differs " + cell + " = index");
            test(13, "no cell " + cell + " is told ahead of no proof", "differs " + cell + " = index");
        }
        test(13, "cells 0 and 63 are the first and the last", "sign \n differs 0 = 0 \n differs 63 = 0");
        test(13, "there is no proof until one is signed",
            "differs 0 = state \n differs 63 = state \n sign \n differs 0 = 0");
        test(13, "plates, jobs and prints are no proof", "plates \n job 1 \n print 1 \n differs 0 = state");
        test(13, "one that is refused signs none", "differs 0 = state \n differs 64 = index \n differs 0 = state");
    }

    // ---- promise 14

    private static void claim() {
        test(14, "a difference of 5 is not above 5",
            PLAIN + "sign \n colour 0 95 100 100 \n plates \n differs 0 = 5 \n claim 0 = false");
        test(14, "a difference of 6 is above 5",
            PLAIN + "sign \n colour 0 94 100 100 \n plates \n differs 0 = 6 \n claim 0 = true");
        test(14, "5 less is not above 5",
            PLAIN + "colour 0 95 100 100 \n plates \n sign \n colour 0 100 100 100 \n plates \n claim 0 = false");
        test(14, "6 less is above 5",
            PLAIN + "colour 0 94 100 100 \n plates \n sign \n colour 0 100 100 100 \n plates \n claim 0 = true");
        test(14, "the sum over the inks counts, not one of them",
            PLAIN + "sign \n colour 0 98 98 98 \n plates \n differs 0 = 6 \n claim 0 = true");
        test(14, "no difference is no right claim", "sign \n each 0 63 claim # = false");
        test(14, "it is about the cell alone",
            PLAIN + "sign \n colour 9 0 0 0 \n plates \n claim 9 = true \n each 10 63 claim # = false");
        test(14, "a proof that is signed anew ends it",
            "sign \n colour 0 0 0 0 \n plates \n claim 0 = true \n sign \n claim 0 = false");
        test(14, "asking changes nothing", "sign \n colour 0 0 0 0 \n plates \n 3 * claim 0 = true \n plates = 0");
    }

    private static void claimRefused() {
        for (int cell : NO_CELLS) {
            test(14, "there is no cell " + cell, "sign \n claim " + cell + " = index");
            test(14, "no cell " + cell + " is told ahead of no proof", "claim " + cell + " = index");
        }
        test(14, "cells 0 and 63 are the first and the last", "sign \n claim 0 = false \n claim 63 = false");
        test(14, "there is no proof until one is signed",
            "claim 0 = state \n claim 63 = state \n sign \n claim 0 = false");
        test(14, "plates, jobs and prints are no proof", "plates \n job 1 \n print 1 \n claim 0 = state");
        test(14, "one that is refused signs none", "claim 0 = state \n claim 64 = index \n claim 0 = state");
    }
}
