/** Each call for a FAIR, DAY or LOG that is not there: the answer that the document names, and all is as it was. */
public final class RefusedCalls {
    private static final int NONE = UprightFair.NONE;
    private static final int LEAST = Integer.MIN_VALUE;
    private static final int GREATEST = Integer.MAX_VALUE;
    private static final int[] NEVER = {-1, -2, 2, 3, LEAST, GREATEST};
    private static final Check check = new Check();

    private static void due(String call, long got, long want) {
        check.due(call, got, want);
    }

    private static void noSuchFair(UprightFair x, int f) {
        String at = " of no FAIR " + f;
        int[] whats = {NONE, 0, 1, 2, 6, 10, 100, 200, LEAST, GREATEST};
        for (int what : whats) {
            due("6 fair" + at, x.fair(f, what), NONE);
            due("10 mend" + at, x.mend(f, what), NONE);
            due("12 asking" + at, x.asking(f, what), NONE);
            due("14 route" + at, x.route(f, what), -2);
            due("18 drawn" + at, x.drawn(f, what, 0, 0), -2);
            due("18 drawn" + at, x.drawn(f, 0, what, 0), -2);
            due("18 drawn" + at, x.drawn(f, 0, 0, what), -2);
            due("19 upright" + at, x.upright(f, what), -2);
            due("23 round" + at, x.round(f, what), NONE);
            due("24 centre" + at, x.centre(f, what), -2);
            due("25 ring" + at, x.ring(f, what), NONE);
            due("26 ladder" + at, x.ladder(f, what), NONE);
            due("27 next" + at, x.next(f, what), NONE);
            due("30 plays" + at, x.plays(f, what), NONE);
            noSuchFairEitherWay(x, f, what, true);
            noSuchFairEitherWay(x, f, what, false);
        }
    }

    private static void noSuchFairEitherWay(UprightFair x, int f, int n, boolean way) {
        String at = " of no FAIR " + f + ", " + way;
        due("11 quiet" + at, x.quiet(f, way), -2);
        due("13 confess" + at, x.confess(f, way), NONE);
        due("15 byTurns" + at, x.byTurns(f, n, way), -9);
        due("20 share" + at, x.share(f, n, way), NONE);
        due("21 walk" + at, x.walk(f, n, way), NONE);
        due("22 forget" + at, x.forget(f, way), NONE);
        due("28 purse" + at, x.purse(f, n, way), NONE);
        due("29 calm" + at, x.calm(f, n, way), NONE);
        due("31 guess" + at, x.guess(f, n, way), NONE);
    }

    private static void noSuchDay(UprightFair x, int d) {
        int[] whats = {NONE, 0, 1, 5, LEAST, GREATEST};
        for (int what : whats) {
            due("7 deed of no DAY " + d, x.deed(d, NONE, what), -2);
            due("7 deed of no DAY " + d, x.deed(d, 0, what), -2);
            due("7 deed of no DAY " + d, x.deed(d, what, 0), -2);
        }
    }

    /** Where either is not there. */
    private static void noSuchTwo(UprightFair x, int f, int d) {
        String at = " of FAIR " + f + ", DAY " + d;
        int[] whats = {NONE, 0, 1, 5, LEAST, GREATEST};
        due("8 till" + at, x.till(f, d), NONE);
        for (int what : whats) {
            due("9 state" + at, x.state(f, d, 0, what), -2);
            due("9 state" + at, x.state(f, d, what, 0), -2);
            due("32 after" + at, x.after(f, d, what), -2);
        }
    }

    private static void noSuchLog(UprightFair x, int l) {
        int[] whats = {NONE, 0, 1, 2, 10, 63, LEAST, GREATEST};
        for (int what : whats) {
            due("16 log of no LOG " + l, x.log(l, what), NONE);
            due("17 fits of no LOG " + l, x.fits(l, what), -2);
            due("33 odds of no LOG " + l, x.odds(l, what, false), NONE);
            due("33 odds of no LOG " + l, x.odds(l, what, true), NONE);
            due("34 small of no LOG " + l, x.small(l, what), -2);
        }
    }

    private static void refusals(UprightFair x, int fairs, int days, int logs) {
        for (int n : NEVER) {
            noSuchFair(x, n);
            noSuchDay(x, n);
            noSuchLog(x, n);
            noSuchTwo(x, n, n);
            noSuchTwo(x, 0, n);
            noSuchTwo(x, n, 0);
        }
        for (int n = fairs; n < 2; n++) {
            noSuchFair(x, n);
            noSuchTwo(x, n, 0);
            noSuchTwo(x, n, 1);
        }
        for (int n = days; n < 2; n++) {
            noSuchDay(x, n);
            noSuchTwo(x, 0, n);
            noSuchTwo(x, 1, n);
        }
        for (int n = logs; n < 2; n++) {
            noSuchLog(x, n);
        }
    }

    /** What is there is answered, the last one too. */
    private static void thoseThere(UprightFair x, int fairs, int days, int logs) {
        for (int f = 0; f < fairs; f++) {
            due("6 FAIR " + f, x.fair(f, 4), 8);
            due("15 FAIR " + f, x.byTurns(f, 0, true), NONE);
            due("19 FAIR " + f, x.upright(f, 0), 0);
            due("25 FAIR " + f, x.ring(f, 18), 255);
            for (int d = 0; d < days; d++) {
                // The second fit of the Full DAY can't be.
                due("8 FAIR " + f + ", DAY " + d, x.till(f, d), 9);
                due("9 FAIR " + f + ", DAY " + d, x.state(f, d, 9, 0), 3);
                due("32 FAIR " + f + ", DAY " + d, x.after(f, d, 4), 1);
            }
        }
        for (int d = 0; d < days; d++) {
            due("7 DAY " + d, x.deed(d, NONE, 0), 40);
        }
        for (int l = 0; l < logs; l++) {
            due("16 LOG " + l, x.log(l, 1), 8);
            due("17 LOG " + l, x.fits(l, 0), 64);
            due("33 LOG " + l, x.odds(l, 1, true), 2);
            due("34 LOG " + l, x.small(l, 1), 6);
        }
    }

    public static void main(String[] args) {
        for (int told = 0; told < 27; told++) {
            int[] many = {told % 3, told / 3 % 3, told / 9};
            UprightFair x = new UprightFair();
            for (int sort = 0; sort < 3; sort++) {
                for (int i = 0; i < many[sort]; i++) {
                    due("4 told", Check.tell(x, sort, Full.text(sort)), i);
                }
            }
            due("4 a FAULT", Check.tellAt(x, 0, many[0] > 1 ? 1 : NONE, "tune;"), NONE);
            Check.tape(x, "slant 7;");
            String before = Check.print(x, true);
            refusals(x, many[0], many[1], many[2]);
            due("all is as it was", Check.print(x, true).equals(before), true);
            thoseThere(x, many[0], many[1], many[2]);
            due("all is as it was", Check.print(x, true).equals(before), true);
            due("4 the tape is as it was", x.text(0, many[0] > 1 ? 1 : NONE), many[0] > 1 ? 1 : many[0]);
            due("6 the tape was as it was", x.fair(many[0] > 1 ? 1 : many[0], 2), 7);
        }
        check.end("RefusedCalls");
    }

    private static void due(String call, boolean got, boolean want) {
        check.due(call, got, want);
    }
}
