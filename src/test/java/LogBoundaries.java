/** The edges of LOGS: promises 16, 17, 33 and 34. */
public final class LogBoundaries {
    private static final int NONE = UprightFair.NONE;
    private static final int LEAST = Integer.MIN_VALUE;
    private static final int GREATEST = Integer.MAX_VALUE;
    private static final Check check = new Check();

    private static void due(String call, long got, long want) {
        check.due(call, got, want);
    }

    private static UprightFair log(String text) {
        return Check.with(2, text);
    }

    private static void asTold() {
        UprightFair x = log(Full.text(2));
        UprightFair none = log("");
        for (int what = -3; what < 60; what++) {
            int want = NONE;
            if (what == 0) {
                want = 8;
            } else if (what == 1) {
                want = 8;
            } else if (what >= 10 && what < 18) {
                want = Full.FACTS[what - 10][0];
            } else if (what >= 20 && what < 28) {
                want = Full.FACTS[what - 20][1];
            }
            due("16 full, what " + what, x.log(0, what), want);
            due("16 empty, what " + what, none.log(0, what), what == 0 || what == 1 ? 0 : NONE);
        }
        due("16 the least what", x.log(0, LEAST), NONE);
        due("16 the greatest what", x.log(0, GREATEST), NONE);
        x = log("stopped 63;");
        int[][] one = {{0, 0}, {1, 1}, {10, 1}, {11, NONE}, {20, 63}, {21, NONE}};
        for (int[] w : one) {
            due("16 one FACT, what " + w[0], x.log(0, w[0]), w[1]);
        }
    }

    /** Nothing told: all 64 FIT, from 0 to 63. */
    private static void allFit(String text) {
        UprightFair x = log(text);
        due("17 all FIT: " + text, x.fits(0, 0), 64);
        due("17 ASK: " + text, x.fits(0, 1), 1);
        for (int k = 0; k < 6; k++) {
            due("17 not SURE of " + k + ": " + text, x.fits(0, 2 + k), NONE);
        }
        for (int k = 0; k < 64; k++) {
            due("17 the " + k + "-th: " + text, x.fits(0, 10 + k), k);
        }
        due("17 no 64-th: " + text, x.fits(0, 74), -2);
        due("34 SMALL: " + text, x.small(0, 0), 0);
        due("34 LARGE: " + text, x.small(0, 1), 6);
        int[][] odds = {{0, 0, 1}, {1, 1, 2}, {32, 1, 2}, {3, 3, 4}, {63, 63, 64}};
        for (int[] w : odds) {
            due("33 N of " + w[0] + ": " + text, x.odds(0, w[0], false), w[1]);
            due("33 D of " + w[0] + ": " + text, x.odds(0, w[0], true), w[2]);
        }
    }

    private static void noneFits(String text, int fewest) {
        UprightFair x = log(text);
        due("17 none FITS: " + text, x.fits(0, 0), 0);
        for (int what = 1; what < 8; what++) {
            due("17 none FITS, what " + what + ": " + text, x.fits(0, what), NONE);
        }
        due("17 no first: " + text, x.fits(0, 10), -2);
        int[] kinds = {0, 1, 63};
        for (int k : kinds) {
            due("33 none FITS, N of " + k + ": " + text, x.odds(0, k, false), NONE);
            due("33 none FITS, D of " + k + ": " + text, x.odds(0, k, true), NONE);
        }
        due("34 SMALL: " + text, x.small(0, 0), NONE);
        due("34 LARGE: " + text, x.small(0, 1), NONE);
        due("34 TRUE: " + text, x.small(0, 2), fewest);
    }

    private static void oneFits() {
        UprightFair x = log("stopped 1;stopped 2;stopped 4;stopped 8;stopped 16;stopped 32;");
        due("17 one FITS", x.fits(0, 0), 1);
        due("17 ASK of one", x.fits(0, 1), 1);
        due("17 the one", x.fits(0, 10), 63);
        due("17 no second", x.fits(0, 11), -2);
        for (int k = 0; k < 6; k++) {
            due("17 SURE of " + k, x.fits(0, 2 + k), 1);
        }
        due("33 N of no KINDS", x.odds(0, 0, false), 0);
        due("33 D of no KINDS", x.odds(0, 0, true), 1);
        due("33 N of one", x.odds(0, 32, false), 1);
        due("34 SMALL", x.small(0, 0), 6);
        due("34 LARGE", x.small(0, 1), 6);
        due("34 NEEDLESS", x.small(0, 3), 0);
        x = log("played 63;");
        due("17 one FITS", x.fits(0, 0), 1);
        due("17 the one", x.fits(0, 10), 0);
        for (int k = 0; k < 6; k++) {
            due("17 SURE of none of " + k, x.fits(0, 2 + k), 0);
        }
        due("33 N of all KINDS", x.odds(0, 63, false), 0);
        due("34 SMALL", x.small(0, 0), 0);
        due("34 LARGE", x.small(0, 1), 0);
    }

    /** As many LIES as just suffice, and one fewer. */
    private static void lies() {
        String eight = "stopped 0;".repeat(8);
        allFit("");
        allFit("lies 8;");
        allFit("lies 8;" + eight);
        noneFits("lies 7;" + eight, 8);
        noneFits(eight, 8);
        noneFits("stopped 0;", 1);
        allFit("lies 1;stopped 0;");
        noneFits("stopped 1;played 1;", 1);
        allFit("lies 1;stopped 1;played 1;");
        allFit("played 0;".repeat(8));
        noneFits("lies 3;" + "stopped 1;played 1;".repeat(4), 4);
        allFit("lies 4;" + "stopped 1;played 1;".repeat(4));
        due("34 TRUE of nothing", log("").small(0, 2), 0);
        due("34 TRUE, whatever LIES", log("lies 8;stopped 0;").small(0, 2), 1);
        due("34 TRUE by no KINDS alone", log("played 63;").small(0, 2), 0);
        due("34 TRUE by all KINDS alone", log("stopped 1;stopped 2;stopped 4;stopped 8;stopped 16;stopped 32;").small(0, 2), 0);
        due("34 TRUE 8", log("lies 8;" + eight).small(0, 2), 8);
        due("34 TRUE 0", log("lies 8;" + "played 0;".repeat(8)).small(0, 2), 0);
        UprightFair x = log("lies 1;stopped 1;stopped 2;");
        due("17 but one LIE", x.fits(0, 0), 48);
        due("17 the first", x.fits(0, 10), 1);
    }

    private static void ask() {
        due("17 ASK for half", log("stopped 3;played 4;").fits(0, 1), 8);
        due("17 ASK for one of three", log("stopped 3;played 60;").fits(0, 1), 1);
        // 1 or 2 or both are in, of the others but the last none: halved by the last alone.
        due("17 ASK the last KIND", log("stopped 3;played 28;").fits(0, 1), 32);
        due("17 ASK of two", log("played 31;").fits(0, 1), 32);
    }

    private static void needless() {
        due("34 NEEDLESS of nothing", log("").small(0, 3), 0);
        due("34 NEEDLESS, all eight", log("played 0;".repeat(8)).small(0, 3), 255);
        due("34 NEEDLESS, twice the same", log("stopped 1;stopped 1;").small(0, 3), 3);
        due("34 NEEDLESS, once", log("stopped 1;").small(0, 3), 0);
        due("34 NEEDLESS, one FITS without it", log("stopped 63;").small(0, 3), 0);
        due("34 NEEDLESS, the first", log("played 0;stopped 1;").small(0, 3), 1);
        due("34 NEEDLESS, the second", log("stopped 1;played 0;").small(0, 3), 2);
        due("34 NEEDLESS, the last of eight", log("stopped 1;stopped 2;stopped 4;stopped 8;stopped 16;stopped 32;played 0;stopped 63;").small(0, 3), 192);
        due("34 NEEDLESS, more LIES than FACTS", log("lies 8;" + "stopped 0;".repeat(8)).small(0, 3), 255);
        due("34 NEEDLESS, as many LIES as FACTS but one", log("lies 7;" + "stopped 0;".repeat(8)).small(0, 3), 0);
        due("34 NEEDLESS, none FITS by far", log("lies 6;" + "stopped 0;".repeat(8)).small(0, 3), 255);
        due("34 NEEDLESS, a LIE more than FACTS", log("lies 1;stopped 1;").small(0, 3), 1);
    }

    private static void whats() {
        UprightFair x = log("");
        UprightFair none = log("stopped 0;");
        int[] noFits = {-1, 8, 9, 74, 75, -2, LEAST, GREATEST};
        for (int what : noFits) {
            due("17 what " + what, x.fits(0, what), -2);
            due("17 none FITS, what " + what, none.fits(0, what), -2);
        }
        int[] noKinds = {-1, 64, 65, LEAST, GREATEST};
        for (int kinds : noKinds) {
            due("33 no KINDS " + kinds, x.odds(0, kinds, false), NONE);
            due("33 no KINDS " + kinds, x.odds(0, kinds, true), NONE);
        }
        int[] others = {-1, 4, -2, LEAST, GREATEST};
        for (int what : others) {
            due("34 what " + what, x.small(0, what), -2);
            due("34 none FITS, what " + what, none.small(0, what), -2);
        }
    }

    public static void main(String[] args) {
        asTold();
        lies();
        oneFits();
        ask();
        needless();
        whats();
        check.end("LogBoundaries");
    }
}
